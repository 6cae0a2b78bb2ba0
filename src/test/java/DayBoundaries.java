/** The edges of DAYS: promises 7 to 9, 18 and 32. */
public final class DayBoundaries {
    private static final int NONE = UprightFair.NONE;
    private static final int LEAST = Integer.MIN_VALUE;
    private static final int GREATEST = Integer.MAX_VALUE;
    private static final Check check = new Check();

    private static void due(String call, long got, long want) {
        check.due(call, got, want);
    }

    private static UprightFair day(String fair, String day) {
        UprightFair x = Check.with(0, fair);
        if (Check.tell(x, 1, day) != 0) {
            throw new IllegalStateException("no day: " + day);
        }
        return x;
    }

    private static void deeds() {
        UprightFair x = Check.with(1, Full.text(1));
        due("7 forty", x.deed(0, NONE, 0), 40);
        for (int k = 0; k < 40; k++) {
            int[] deed = Full.deed(k);
            for (int what = 0; what < 4; what++) {
                due("7 DEED " + k + ", what " + what, x.deed(0, k, what), what < deed.length ? deed[what] : NONE);
            }
        }
        int[] noDeeds = {40, 41, -2, LEAST, GREATEST};
        int[] others = {-1, 4, -2, LEAST, GREATEST};
        UprightFair none = Check.with(1, "");
        UprightFair one = Check.with(1, "fit;");
        for (int k : noDeeds) {
            for (int what = -1; what <= 4; what++) {
                due("7 no DEED " + k + ", what " + what, x.deed(0, k, what), -2);
                due("7 no DEEDS, no " + k + ", what " + what, none.deed(0, k, what), -2);
            }
        }
        for (int what : others) {
            due("7 the first, what " + what, x.deed(0, 0, what), -2);
            due("7 the last, what " + what, x.deed(0, 39, what), -2);
            due("7 how many, what " + what, x.deed(0, NONE, what), -2);
        }
        for (int what = 1; what < 4; what++) {
            due("7 how many, what " + what, x.deed(0, NONE, what), -2);
            due("7 no numbers, what " + what, one.deed(0, 0, what), NONE);
        }
        due("7 no DEEDS", none.deed(0, NONE, 0), 0);
        due("7 no first", none.deed(0, 0, 0), -2);
        due("7 one DEED", one.deed(0, NONE, 0), 1);
        due("7 the one", one.deed(0, 0, 0), 1);
        due("7 no second", one.deed(0, 1, 0), -2);
    }

    private static void till(String fair, String day, int end) {
        UprightFair x = day(fair, day);
        due("8 END of " + day, x.till(0, 0), end);
        due("9 STATE behind END of " + day, x.state(0, 0, end, 0) >= 0 ? 1 : 0, 1);
        due("9 none beyond END of " + day, x.state(0, 0, end + 1, 0), -2);
    }

    private static void tillTheFirstThatCantBe() {
        till("", "", 0);
        till("", "tune;".repeat(40), 40);
        till("", "fit;" + "tune;".repeat(39), 0);
        till("", "tune;".repeat(39) + "fit;", 39);
        till("slant 9;", "tune;".repeat(39) + "fit;", 40);
        till("slant 1;", "fit;", 1);
        till("slant 1;", "fit;fit;tune;", 1);
        String[] of = {"ask G;", "walk G 0 0;", "do G 0 1;", "do G 0 1;mend G 0 1;"};
        for (String line : of) {
            int deeds = line.split(";").length;
            till("", line.replace("G", "0"), 0);
            till("goer 0 0;", line.replace("G", "0"), deeds);
            till("goer 0 0;", line.replace("G", "1"), 0);
            till("goer 0 0;".repeat(7), line.replace("G", "7"), 0);
            till("goer 0 0;".repeat(8), line.replace("G", "7"), deeds);
        }
        till("goer 0 0;", "mend 0 0 1;", 0);
        till("goer 0 0;wrong 0 0 1;", "mend 0 0 1;", 1);
        till("goer 0 0;wrong 0 0 1;", "mend 0 0 2;", 0);
        till("goer 0 0;wrong 0 0 1;", "mend 0 0 1;mend 0 0 1;", 1);
        till("goer 0 0;wrong 0 0 1;", "mend 0 1 1;", 0);
        till("goer 0 0;wrong 0 5 9;", "mend 0 5 9;", 1);
        till("goer 0 0;wrong 0 5 8;", "mend 0 5 9;", 0);
        till("goer 0 0;", "do 0 5 9;", 1);
        till("goer 0 0;", "do 0 5 9;do 0 5 1;", 1);
        till("goer 0 0;wrong 0 5 1;", "do 0 5 9;", 0);
        till("goer 0 0;wrong 0 5 8;", "do 0 5 1;", 1);
        till("goer 0 0;wrong 0 5 8;", "do 0 5 2;", 0);
        till("goer 0 0;wrong 0 5 9;", "do 0 4 9;do 0 5 1;", 1);
        till("goer 0 0;", "walk 0 9 9;walk 0 9 9;walk 0 0 0;", 3);
    }

    private static void states() {
        UprightFair x = day("slant 4;goer 0 0;goer 9 9;", "tune;".repeat(40));
        for (int n = 0; n <= 40; n++) {
            due("9 tunes behind " + n, x.state(0, 0, n, 0), n);
            due("9 STOPPED behind " + n, x.state(0, 0, n, 1), n / 4);
            due("9 the last one behind " + n, x.state(0, 0, n, 6), n == 0 ? NONE : n % 4 == 0 ? 1 : 0);
        }
        int[] noStates = {-1, 41, 42, LEAST, GREATEST};
        for (int n : noStates) {
            due("9 no STATE behind " + n, x.state(0, 0, n, 0), -2);
        }
        int[] others = {-1, 7, 8, 9, 12, 17, 18, 19, 22, 27, 28, 29, 30, 31, 40, 99, 106, 107, 108, 109, 116, 117, 120, 175, 180, 200, LEAST, GREATEST};
        for (int what : others) {
            due("9 what " + what, x.state(0, 0, 0, what), -2);
            due("9 what " + what + " in the end", x.state(0, 0, 40, what), -2);
            due("18 what " + what, x.drawn(0, 1, 0, what), -2);
            due("18 what " + what + " drawn", x.drawn(0, 1, 60, what), -2);
        }
        int[][] there = {{10, 0}, {11, 9}, {20, 0}, {21, 9}, {100, 0}, {105, 0}, {110, 0}, {115, 0}};
        for (int[] w : there) {
            due("9 what " + w[0], x.state(0, 0, 40, w[0]), w[1]);
            due("18 what " + w[0], x.drawn(0, 1, 0, w[0]), w[1]);
        }
        x = day(Full.text(0), Full.text(1));
        for (int what = 7; what < 10; what++) {
            due("9 eight GOERS, what " + what, x.state(0, 0, 0, what), -2);
            due("18 eight GOERS, what " + what, x.drawn(0, 1, 60, what), -2);
        }
        due("9 eight GOERS, the last one's X", x.state(0, 0, 0, 17), 7);
        due("9 eight GOERS, the last one's Y", x.state(0, 0, 0, 27), 2);
        due("9 eight GOERS, the last one's WRONGS", x.state(0, 0, 0, 175), 9);
        due("9 no ninth", x.state(0, 0, 0, 18), -2);
        due("9 no ninth", x.state(0, 0, 0, 28), -2);
        due("9 no ninth", x.state(0, 0, 0, 180), -2);
        x = day("", "");
        int[] empty = {0, 0, 0, 0, 0, 0, NONE};
        for (int what = 0; what < 7; what++) {
            due("9 of nothing, what " + what, x.state(0, 0, 0, what), empty[what]);
            due("9 of nothing, none behind 1", x.state(0, 0, 1, what), -2);
        }
        due("9 nobody", x.state(0, 0, 0, 10), -2);
    }

    private static void slants() {
        int[][] stopped = {{0, 0}, {1, 40}, {2, 20}, {3, 13}, {8, 5}, {9, 4}};
        for (int[] w : stopped) {
            UprightFair x = day("slant " + w[0] + ";", "tune;".repeat(40));
            due("2 STOPS by SLANT " + w[0], x.state(0, 0, 40, 1), w[1]);
            due("32 FIRST by SLANT " + w[0], x.after(0, 0, 0), w[0] == 0 ? NONE : w[0]);
            due("32 LONGEST by SLANT " + w[0], x.after(0, 0, 1), w[0] == 0 ? 40 : w[0] - 1);
        }
        UprightFair x = day("slant 1;", "tune;fit;tune;");
        due("2 fit: SLANT is 0", x.state(0, 0, 2, 2), 0);
        due("2 the first STOPS", x.state(0, 0, 1, 6), 1);
        due("2 the second PLAYS", x.state(0, 0, 3, 6), 0);
        due("6 SLANT as told", x.fair(0, 2), 1);
    }

    /** DEEDS that just bring him to OFFEND, or just not. */
    private static void offending() {
        UprightFair x = day("goer 5 8;minds 3 2 4;wrong 0 3 3;", "ask 0;walk 0 5 7;ask 0;do 0 3 1;ask 0;tune;walk 0 5 8;tune;walk 0 3 5;mend 0 3 1;tune;do 0 3 6;tune;");
        int[] offends = {0, 0, 0, 0, 1, 1, 1, 0, 0, 1, 0, 0, 1, 1};
        int[] found = {0, 0, 0, 0, 0, 1, 1, 1, 1, 1, 1, 1, 1, 1};
        int[] asked = {0, 1, 1, 1, 1, 1, 1, 1, 1, 1, 1, 1, 1, 1};
        int[] stopped = {0, 0, 0, 0, 0, 0, 1, 1, 1, 1, 1, 1, 1, 2};
        due("8 all can be", x.till(0, 0), 13);
        for (int n = 0; n <= 13; n++) {
            due("9 OFFENDS behind " + n, x.state(0, 0, n, 3), offends[n]);
            due("9 FOUND behind " + n, x.state(0, 0, n, 5), found[n]);
            due("9 ASKED behind " + n, x.state(0, 0, n, 4), asked[n]);
            due("9 STOPPED behind " + n, x.state(0, 0, n, 1), stopped[n]);
        }
        due("9 nine WRONGS at most", x.state(0, 0, 13, 103), 9);
        due("32 FIRST", x.after(0, 0, 0), 1);
        due("32 LONGEST", x.after(0, 0, 1), 2);
        x = day("goer 5 5;".repeat(8) + "minds 0 0 1;wrong 7 0 1;", "ask 7;ask 0;");
        due("9 the eighth OFFENDS", x.state(0, 0, 0, 3), 128);
        due("9 the eighth is FOUND", x.state(0, 0, 2, 5), 128);
        due("9 two are ASKED", x.state(0, 0, 2, 4), 129);
        x = day("goer 5 5;goer 5 5;minds 0 0 1;wrong 0 0 1;wrong 1 0 1;", "ask 0;ask 1;ask 0;mend 0 0 1;ask 0;");
        due("9 both are FOUND", x.state(0, 0, 2, 5), 3);
        due("9 asked anew, both are FOUND", x.state(0, 0, 3, 5), 3);
        due("9 mended, both were FOUND", x.state(0, 0, 5, 5), 3);
        due("9 mended, both were ASKED", x.state(0, 0, 5, 4), 3);
    }

    private static void after() {
        int[] others = {-1, 6, -2, LEAST, GREATEST};
        UprightFair x = day("", "");
        int[] empty = {NONE, 0, 0, 0, 0, 0};
        for (int what = 0; what < 6; what++) {
            due("32 of nothing, what " + what, x.after(0, 0, what), empty[what]);
        }
        for (int what : others) {
            due("32 what " + what, x.after(0, 0, what), -2);
        }
        x = day("stand 0 0;goer 0 0;wrong 0 0 9;", "walk 0 9 9;walk 0 9 9;mend 0 0 9;do 0 0 9;ask 0;ask 0;mend 0 0 1;do 0 1 1;");
        int[] all = {NONE, 0, 10, 10, 2, 18};
        for (int what = 0; what < 6; what++) {
            due("32 up to END, what " + what, x.after(0, 0, what), all[what]);
        }
        // fit can't be: what is told behind it is not done.
        x = day("stand 0 0;goer 0 0;wrong 0 0 9;", "tune;ask 0;mend 0 0 1;walk 0 0 1;do 0 5 2;fit;tune;ask 0;mend 0 0 1;walk 0 9 9;do 0 5 2;");
        int[] before = {NONE, 1, 1, 2, 1, 1};
        for (int what = 0; what < 6; what++) {
            due("32 nothing behind END, what " + what, x.after(0, 0, what), before[what]);
        }
        x = day("goer 0 0;wrong 0 0 1;", "mend 0 0 2;");
        due("32 nothing of the DEED that can't be", x.after(0, 0, 2), 0);
        x = day("goer 0 0;wrong 0 0 1;", "do 0 0 9;");
        due("32 nothing of the DEED that can't be", x.after(0, 0, 3), 0);
        x = day("goer 5 5;minds 0 0 1;wrong 0 0 1;", "tune;mend 0 0 1;tune;tune;do 0 0 1;tune;mend 0 0 1;tune;");
        due("32 FIRST, the first", x.after(0, 0, 0), 1);
        due("32 LONGEST, not the last", x.after(0, 0, 1), 2);
        x = day("slant 5;", "tune;".repeat(4) + "fit;" + "tune;".repeat(35));
        due("32 FIRST, none", x.after(0, 0, 0), NONE);
        due("32 LONGEST, all", x.after(0, 0, 1), 39);
    }

    /** n from 0 to 60, any seed; what is drawn held against the naive reading. */
    private static void drawn() {
        int[] times = {-1, 61, -2, LEAST, GREATEST};
        int[] seeds = {0, 1, -1, LEAST, GREATEST, LEAST + 1, 65535, 65536, -65536};
        UprightFair x = Check.full();
        UprightFair none = Check.with(0, "slant 9;");
        UprightFair one = Check.with(0, "slant 1;goer 5 5;minds 0 9 1;");
        Naive.Fair nobody = new Naive.Fair();
        nobody.slant = 9;
        Naive.Fair single = new Naive.Fair();
        single.slant = 1;
        single.goers.add(new int[] {5, 5});
        single.minds.add(new int[] {0, 9, 1});
        for (int seed : seeds) {
            for (int n : times) {
                due("18 n " + n, x.drawn(0, seed, n, 0), -2);
                due("18 n " + n + ", nobody", none.drawn(0, seed, n, 0), -2);
            }
            int[] drawn = {0, 1, 2, 3, 10, 30, 58, 59, 60};
            for (int n : drawn) {
                Naive.Run empty = Naive.drawn(nobody, seed, n);
                Naive.Run alone = Naive.drawn(single, seed, n);
                for (int what = -1; what < 30; what++) {
                    due("18 nobody, seed " + seed + ", n " + n + ", what " + what, none.drawn(0, seed, n, what), empty.state(what));
                    due("18 one, seed " + seed + ", n " + n + ", what " + what, one.drawn(0, seed, n, what), alone.state(what));
                }
                for (int what = 100; what < 111; what++) {
                    due("18 one, seed " + seed + ", n " + n + ", what " + what, one.drawn(0, seed, n, what), alone.state(what));
                }
            }
        }
        due("18 the FAIR is as told", one.fair(0, 2), 1);
        due("18 the FAIR is as told", one.fair(0, 40), 5);
        due("18 the least what", x.drawn(0, 0, 0, LEAST), -2);
        due("18 the greatest what", x.drawn(0, 0, 60, GREATEST), -2);
    }

    public static void main(String[] args) {
        deeds();
        tillTheFirstThatCantBe();
        states();
        slants();
        offending();
        after();
        drawn();
        check.end("DayBoundaries");
    }
}
