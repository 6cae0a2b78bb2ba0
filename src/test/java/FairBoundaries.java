/** The edges of what is asked of a FAIR as told: promises 6, 10 to 15 and 19 to 31. */
public final class FairBoundaries {
    private static final int NONE = UprightFair.NONE;
    private static final int LEAST = Integer.MIN_VALUE;
    private static final int GREATEST = Integer.MAX_VALUE;
    private static final String EIGHT = "goer 5 5;".repeat(8);
    private static final Check check = new Check();

    private static void due(String call, long got, long want) {
        check.due(call, got, want);
    }

    private static UprightFair fair(String text) {
        return Check.with(0, text);
    }

    /** A MINDS of a KIND and wrong of it, of the first so many GOERS. */
    private static String wrongs(int goers, int kind, int many) {
        StringBuilder b = new StringBuilder();
        for (int g = 0; g < goers; g++) {
            b.append("wrong " + g + " " + kind + " " + many + ";");
        }
        return b.toString();
    }

    private static void asTold() {
        UprightFair x = fair(Full.text(0));
        int[] whole = {0, 9, 9, 6, 8, 6, 6};
        for (int what = -3; what < 400; what++) {
            int k = Math.floorMod(what, 10);
            int tens = Math.floorDiv(what, 10);
            int want = NONE;
            if (tens == 0) {
                want = k < 7 ? whole[k] : NONE;
            } else if (tens >= 1 && tens <= 3) {
                want = k < 6 ? Full.MINDS[k][tens - 1] : NONE;
            } else if (tens == 4 || tens == 5) {
                want = k < 8 ? Full.GOERS[k][tens - 4] : NONE;
            } else if (tens == 6 || tens == 7) {
                want = k < 6 ? Full.CONFESSIONS[k][tens - 6] : NONE;
            } else if (tens >= 10 && tens < 18) {
                want = k < 6 ? Full.wrongs(tens - 10, k) : NONE;
            } else if (tens >= 20 && tens < 26) {
                want = k < 4 ? Full.TOWNS[tens - 20][k] : NONE;
            }
            due("6 full, what " + what, x.fair(0, what), want);
        }
        due("6 the least what", x.fair(0, LEAST), NONE);
        due("6 the greatest what", x.fair(0, GREATEST), NONE);
        x = fair("");
        int[] atFirst = {5, 5, 0, 0, 0, 0, 0};
        for (int what = -3; what < 400; what++) {
            due("6 empty, what " + what, x.fair(0, what), what >= 0 && what < 7 ? atFirst[what] : NONE);
        }
        x = fair("minds 1 2 3;goer 4 5;confess 6 7;town 8 9 10 1;");
        int[][] one = {{10, 1}, {11, NONE}, {20, 2}, {21, NONE}, {30, 3}, {31, NONE}, {40, 4}, {41, NONE}, {50, 5}, {51, NONE},
            {60, 6}, {61, NONE}, {70, 7}, {71, NONE}, {100, 0}, {105, 0}, {106, NONE}, {110, NONE}, {200, 8}, {203, 1}, {204, NONE}, {210, NONE}};
        for (int[] w : one) {
            due("6 one of each, what " + w[0], x.fair(0, w[0]), w[1]);
        }
    }

    /** REACH as far as he is, and one less; LEAST as many as he has, and one more. */
    private static void whoOffends() {
        String[] near = {"stand 0 0;goer 9 9;minds 0 18 9;wrong 0 0 9;", "goer 5 5;minds 5 0 1;wrong 0 5 1;", "goer 4 7;minds 2 3 4;wrong 0 2 4;",
            "stand 9 0;goer 9 9;minds 1 9 2;wrong 0 1 2;", "stand 3 3;goer 1 4;minds 1 9 2;minds 0 2 1;minds 0 3 7;wrong 0 0 7;"};
        String[] notSo = {"stand 0 0;goer 9 9;minds 0 17 9;wrong 0 0 9;", "stand 0 0;goer 9 9;minds 0 18 9;wrong 0 0 8;", "goer 5 6;minds 5 0 1;wrong 0 5 1;",
            "goer 5 5;minds 5 0 1;", "goer 5 5;minds 5 0 1;wrong 0 4 9;", "goer 4 7;minds 2 3 5;wrong 0 2 4;", "goer 5 5;wrong 0 0 9;",
            "stand 3 3;goer 1 4;minds 1 9 2;minds 0 2 1;minds 0 3 8;wrong 0 0 7;"};
        for (String text : near) {
            due("2 OFFENDS: " + text, fair(text).plays(0, 1), 0);
        }
        for (String text : notSo) {
            due("2 does not OFFEND: " + text, fair(text).plays(0, 1), 1);
        }
    }

    private static void mend() {
        StringBuilder all = new StringBuilder();
        for (int k = 0; k < 6; k++) {
            all.append("minds " + k + " 0 1;wrong 0 " + k + " 9;");
        }
        UprightFair x = fair("goer 5 5;" + all);
        due("10 all of all KINDS", x.mend(0, 0), 54);
        due("10 one beyond the GOERS", x.mend(0, 1), NONE);
        x = fair(EIGHT + "minds 0 0 9;wrong 7 0 9;");
        due("10 the eighth", x.mend(0, 7), 1);
        int[] none = {8, -1, LEAST, GREATEST};
        for (int g : none) {
            due("10 no GOER " + g, x.mend(0, g), NONE);
        }
        due("10 who does not OFFEND", x.mend(0, 0), 0);
        due("10 no MINDS", fair("goer 5 5;wrong 0 0 9;").mend(0, 0), 0);
        due("10 no GOERS", fair("minds 0 0 1;").mend(0, 0), NONE);
        due("10 REACH as far as he is", fair("goer 5 6;minds 0 1 1;wrong 0 0 9;").mend(0, 0), 9);
        due("10 REACH one less", fair("goer 5 6;minds 0 0 1;wrong 0 0 9;").mend(0, 0), 0);
        due("10 LEAST as many as he has", fair("goer 5 5;minds 0 0 5;wrong 0 0 5;").mend(0, 0), 1);
        due("10 LEAST one more", fair("goer 5 5;minds 0 0 6;wrong 0 0 5;").mend(0, 0), 0);
    }

    private static void quiet() {
        quiet("stand 0 0;", 100, 0);
        quiet("stand 9 9;goer 0 0;wrong 0 0 9;", 100, 99);
        quiet("goer 0 0;minds 0 18 1;wrong 0 0 1;", 0, NONE);
        quiet("goer 0 9;minds 0 18 1;wrong 0 0 1;", 0, NONE);
        quiet("stand 0 0;goer 0 0;minds 0 17 1;wrong 0 0 1;", 1, 99);
        quiet("goer 0 0;minds 0 17 1;wrong 0 0 1;", 1, 99);
        quiet("goer 9 9;minds 0 17 1;wrong 0 0 1;", 1, 0);
        quiet("goer 5 5;minds 0 10 1;wrong 0 0 1;", 0, NONE);
        quiet("goer 5 5;minds 0 9 1;wrong 0 0 1;", 1, 0);
        quiet("stand 9 9;goer 9 9;minds 0 0 1;wrong 0 0 1;", 99, 89);
        quiet("stand 0 0;goer 0 0;minds 0 0 1;wrong 0 0 1;", 99, 1);
        quiet(EIGHT + "minds 0 0 1;" + wrongs(8, 0, 1), 99, 45);
        quiet("minds 0 18 1;", 100, 55);
    }

    private static void quiet(String text, int many, int where) {
        due("11 how many: " + text, fair(text).quiet(0, false), many);
        due("11 where: " + text, fair(text).quiet(0, true), where);
    }

    private static void asking() {
        int[][] alike = {{1, 0, 1, 0}, {2, 1, 1, 1}, {3, 5, 3, 2}, {4, 2, 1, 2}, {5, 12, 5, 3}, {6, 8, 3, 3}, {7, 20, 7, 3}, {8, 3, 1, 3}};
        for (int[] row : alike) {
            UprightFair x = fair("goer 0 0;".repeat(row[0]));
            for (int what = 0; what < 3; what++) {
                due("12 " + row[0] + " alike, what " + what, x.asking(0, what), row[what + 1]);
            }
        }
        UprightFair none = fair("");
        UprightFair some = fair("goer 0 0;");
        for (int what = 0; what < 3; what++) {
            due("12 no GOERS", none.asking(0, what), NONE);
        }
        int[] others = {-1, 3, -2, LEAST, GREATEST};
        for (int what : others) {
            due("12 no GOERS, what " + what, none.asking(0, what), NONE);
            due("12 what " + what, some.asking(0, what), NONE);
        }
        // Weights 55, 1, 1, 1: 1, 2, 3, 3 questions: 63 of 58.
        StringBuilder b = new StringBuilder("goer 0 0;".repeat(4));
        for (int k = 0; k < 6; k++) {
            b.append("wrong 0 " + k + " 9;");
        }
        UprightFair x = fair(b.toString());
        due("12 N of the most WRONGS", x.asking(0, 0), 63);
        due("12 D of the most WRONGS", x.asking(0, 1), 58);
        due("12 for sure all the same", x.asking(0, 2), 2);
    }

    private static void confess() {
        confess("", 0, 0);
        confess("minds 0 0 1;goer 0 0;wrong 0 0 1;", NONE, NONE);
        confess("minds 0 0 9;goer 0 0;wrong 0 0 1;confess 1 20;", 20, 1);
        confess("minds 5 0 9;goer 0 0;wrong 0 5 1;confess 31 0;confess 32 20;", 20, 2);
        confess("minds 5 0 9;goer 0 0;wrong 0 5 1;confess 31 0;", NONE, NONE);
        confess("minds 0 0 1;goer 0 0;wrong 0 1 9;confess 3 20;", 0, 0);
        confess("goer 0 0;wrong 0 0 9;confess 1 20;", 0, 0);
        confess("minds 0 0 1;goer 0 0;confess 1 20;", 0, 0);
        confess("minds 0 0 1;confess 1 20;", 0, 0);
        confess("minds 0 0 1;goer 0 0;wrong 0 0 1;confess 1 0;confess 1 0;", 0, 1);
        confess("minds 0 0 1;goer 0 0;wrong 0 0 1;confess 2 0;confess 1 1;confess 1 1;", 1, 2);
        confess("minds 0 0 1;minds 0 1 1;goer 0 0;wrong 0 0 1;confess 1 5;", 5, 1);
        confess("minds 0 0 1;minds 1 0 1;minds 2 0 1;goer 0 0;wrong 0 0 1;wrong 0 1 1;wrong 0 2 1;confess 3 1;confess 6 1;", 2, 3);
        StringBuilder six = new StringBuilder("goer 0 0;".repeat(2));
        for (int k = 0; k < 6; k++) {
            six.append("minds " + k + " 0 9;wrong " + k % 2 + " " + k + " 1;confess " + (1 << k) + " 20;");
        }
        confess(six.toString(), 120, 63);
        confess(six.toString().replace("confess 32 20;", "confess 63 20;"), 20, 32);
        confess(six.toString().replace("confess 32 20;", ""), NONE, NONE);
    }

    private static void confess(String text, int price, int which) {
        due("13 how much: " + text, fair(text).confess(0, false), price);
        due("13 which: " + text, fair(text).confess(0, true), which);
    }

    private static void route() {
        route("", 0);
        route("stand 0 0;town 9 9 18 10;", 0);
        route("stand 0 0;town 9 9 19 10;", 10, 0);
        route("town 5 5 0 10;town 5 5 30 0;", 0);
        route("town 5 5 1 1;", 1, 0);
        route("town 5 6 10 1;", 0);
        route("town 5 6 11 1;", 1, 0);
        route("town 5 5 30 10;".repeat(6), 1800, 0, 1, 2, 3, 4, 5);
        route("town 5 5 30 10;".repeat(5) + "town 5 5 0 10;", 1500, 0, 1, 2, 3, 4);
        // The first pays just its own way, and lies on the way to the third; the second pays nothing.
        route("stand 0 0;town 0 9 9 10;town 0 9 0 10;town 1 9 30 10;", 290, 0, 2);
        route("stand 0 0;town 0 9 1 10;town 1 9 30 10;", 210, 0, 1);
        int[] others = {-1, 2, 3, 9, LEAST, GREATEST};
        UprightFair x = fair("town 5 5 30 10;".repeat(6));
        UprightFair none = fair("");
        for (int what : others) {
            due("14 what " + what, x.route(0, what), -2);
            due("14 no TOWNS, what " + what, none.route(0, what), -2);
        }
    }

    private static void route(String text, int most, int... row) {
        UprightFair x = fair(text);
        due("14 how much: " + text, x.route(0, 0), most);
        due("14 how many: " + text, x.route(0, 1), row.length);
        for (int k = 0; k <= 7; k++) {
            due("14 the " + k + "-th: " + text, x.route(0, 10 + k), k < row.length ? row[k] : -2);
        }
    }

    private static void turns() {
        int[] others = {-1, 5, -9, LEAST, GREATEST};
        UprightFair none = fair("");
        UprightFair x = fair(EIGHT + "minds 0 0 1;" + wrongs(8, 0, 1));
        for (int n : others) {
            due("15 n " + n, x.byTurns(0, n, false), -9);
            due("15 n " + n, x.byTurns(0, n, true), -9);
        }
        int[] left = {8, 7, 7, 6, 6};
        for (int n = 0; n < 5; n++) {
            due("15 eight, n " + n, x.byTurns(0, n, false), left[n]);
            due("15 eight, first, n " + n, x.byTurns(0, n, true), n == 0 ? NONE : 0);
            due("15 no GOERS, n " + n, none.byTurns(0, n, false), 0);
            due("15 no GOERS, first, n " + n, none.byTurns(0, n, true), n == 0 ? NONE : 8);
        }
        x = fair("goer 5 5;".repeat(7) + "goer 0 0;minds 0 0 1;wrong 7 0 9;");
        due("15 the town brings the eighth", x.byTurns(0, 2, false), 0);
        due("15 unless he mends first", x.byTurns(0, 2, true), 7);
        due("15 nobody OFFENDS, all are alike", x.byTurns(0, 1, true), 0);
        x = fair("goer 0 0;goer 0 0;minds 0 0 1;" + wrongs(2, 0, 1));
        due("15 one of two is brought", x.byTurns(0, 2, false), 1);
        due("15 whoever mends, so the least", x.byTurns(0, 2, true), 0);
        due("15 the other mends then", x.byTurns(0, 3, false), 0);
    }

    private static void upright() {
        int[] others = {-1, 10, -2, LEAST, GREATEST};
        UprightFair x = fair(EIGHT);
        int[] eight = {255, 0, 0, 0, 0, 0, 1, 0, NONE, 0};
        for (int what = 0; what < 10; what++) {
            due("19 eight and no MINDS, what " + what, x.upright(0, what), eight[what]);
        }
        for (int what : others) {
            due("19 what " + what, x.upright(0, what), -2);
        }
        x = fair("minds 0 18 1;".repeat(6));
        int[] minds = {0, NONE, 0, 0, 63, 0, NONE, 0, 0, 0};
        for (int what = 0; what < 10; what++) {
            due("19 six MINDS and nobody, what " + what, x.upright(0, what), minds[what]);
        }
        x = fair("stand 0 0;goer 9 9;");
        int[] one = {1, 0, 0, 0, 0, 18, NONE, 0, NONE, 0};
        for (int what = 0; what < 10; what++) {
            due("19 one GOER, what " + what, x.upright(0, what), one[what]);
        }
        due("19 HEARD as far as he is", fair("stand 0 0;goer 9 9;minds 0 18 9;").upright(0, 3), 1);
        due("19 HEARD one less", fair("stand 0 0;goer 9 9;minds 0 17 9;").upright(0, 3), 0);
        due("19 HEARD at REACH 0", fair("goer 5 6;goer 5 5;minds 0 0 9;").upright(0, 3), 2);
        due("19 HEARD by the last of six", fair("goer 5 6;minds 0 0 9;minds 0 0 9;minds 0 0 9;minds 0 0 9;minds 0 0 9;minds 0 1 9;").upright(0, 3), 1);
        due("19 UPRIGHT but one", fair(EIGHT + "wrong 7 5 1;").upright(0, 0), 127);
        due("19 UPRIGHT nobody", fair(EIGHT + wrongs(8, 3, 1)).upright(0, 0), 0);
        due("19 WORST the eighth", fair(EIGHT + wrongs(7, 0, 8) + "wrong 7 5 9;").upright(0, 1), 7);
        due("19 WORST of several the least", fair(EIGHT + "wrong 7 5 9;wrong 3 0 4;wrong 3 1 5;").upright(0, 1), 3);
        for (int k = 0; k < 6; k++) {
            due("19 MOST by one, KIND " + k, fair("goer 0 0;wrong 0 " + k + " 1;").upright(0, 2), k);
        }
        due("19 MOST the sixth", fair(EIGHT + "wrong 0 0 9;wrong 1 5 9;wrong 2 5 1;").upright(0, 2), 5);
        due("19 MOST of several the least", fair(EIGHT + "wrong 0 5 9;wrong 1 4 8;wrong 2 4 1;").upright(0, 2), 4);
        due("19 MOST of none", fair("").upright(0, 2), 0);
    }

    private static void idleAndBroad() {
        String two = "goer 5 5;goer 5 6;wrong 0 0 5;wrong 1 0 5;";
        due("19 IDLE none", fair(two + "minds 0 1 5;").upright(0, 4), 0);
        due("19 IDLE that nobody comes up to", fair(two + "minds 0 1 6;").upright(0, 4), 1);
        due("19 IDLE within another", fair(two + "minds 0 1 5;minds 0 0 5;").upright(0, 4), 2);
        due("19 IDLE each alone", fair(two + "minds 0 1 5;minds 0 1 4;").upright(0, 4), 3);
        due("19 IDLE the last of six", fair(two + "minds 0 1 5;" + "minds 1 1 1;".repeat(5)).upright(0, 4), 62);
        due("19 BROAD of several the least", fair(two + "minds 0 1 6;minds 0 0 5;minds 0 0 1;").upright(0, 8), 1);
        due("19 BROAD, how many", fair(two + "minds 0 1 6;minds 0 0 5;minds 0 0 1;").upright(0, 9), 1);
        String last = two + "minds 0 0 5;".repeat(5) + "minds 0 1 5;";
        due("19 BROAD the last of six", fair(last).upright(0, 8), 5);
        due("19 BROAD the last of six, how many", fair(last).upright(0, 9), 2);
        due("19 BROAD by whom nobody OFFENDS", fair(two + "minds 0 1 6;minds 0 1 7;").upright(0, 8), 0);
        due("19 BROAD by whom nobody OFFENDS", fair(two + "minds 0 1 6;minds 0 1 7;").upright(0, 9), 0);
        due("19 BROAD eight", fair(EIGHT + wrongs(8, 0, 9) + "minds 0 0 9;").upright(0, 9), 8);
    }

    private static void treeAndNearest() {
        due("19 TREE of nobody", fair("stand 9 9;").upright(0, 5), 0);
        due("19 TREE all at the STAND", fair(EIGHT).upright(0, 5), 0);
        due("19 TREE from any that is joined", fair("stand 0 0;goer 9 9;goer 9 0;goer 0 9;").upright(0, 5), 27);
        due("19 TREE of far ones, the nearer first", fair("stand 0 0;goer 9 9;goer 9 8;").upright(0, 5), 18);
        due("19 TREE of two at one PLACE", fair("stand 0 0;goer 9 9;goer 9 9;").upright(0, 5), 18);
        due("19 TREE of eight", fair("stand 0 0;goer 0 8;goer 0 7;goer 0 6;goer 0 5;goer 0 4;goer 0 3;goer 0 2;goer 0 1;").upright(0, 5), 8);
        UprightFair x = fair("stand 0 0;goer 0 0;goer 0 9;goer 9 0;goer 9 9;goer 4 4;goer 0 4;goer 6 7;goer 7 7;");
        due("19 NEAREST the last two", x.upright(0, 6), 67);
        due("19 NEAREST, how far", x.upright(0, 7), 1);
        x = fair("goer 0 0;goer 9 9;");
        due("19 NEAREST the only two", x.upright(0, 6), 1);
        due("19 NEAREST 18", x.upright(0, 7), 18);
        x = fair("goer 3 3;goer 4 4;goer 3 3;goer 4 4;");
        due("19 NEAREST of several the least", x.upright(0, 6), 2);
        due("19 NEAREST at one PLACE", x.upright(0, 7), 0);
    }

    private static void share() {
        StringBuilder all = new StringBuilder("goer 0 0;goer 0 0;goer 0 0;");
        for (int g = 0; g < 2; g++) {
            for (int k = 0; k < 6; k++) {
                all.append("wrong " + g + " " + k + " 9;");
            }
        }
        UprightFair x = fair(all.toString());
        due("20 one half, N", x.share(0, 1, false), 1);
        due("20 one half, D", x.share(0, 1, true), 2);
        due("20 none, N", x.share(0, 2, false), 0);
        due("20 none, D", x.share(0, 2, true), 1);
        int[] others = {-1, 3, 8, LEAST, GREATEST};
        for (int g : others) {
            due("20 no GOER " + g, x.share(0, g, false), NONE);
            due("20 no GOER " + g, x.share(0, g, true), NONE);
        }
        x = fair(EIGHT + "wrong 7 5 1;");
        due("20 all, N", x.share(0, 7, false), 1);
        due("20 all, D", x.share(0, 7, true), 1);
        due("20 no WRONGS, N", fair(EIGHT).share(0, 7, false), NONE);
        due("20 no WRONGS, D", fair(EIGHT).share(0, 7, true), NONE);
        due("20 nobody", fair("").share(0, 0, true), NONE);
        x = fair("goer 0 0;goer 0 0;wrong 0 0 9;wrong 1 0 6;");
        due("20 in least terms, N", x.share(0, 0, false), 3);
        due("20 in least terms, D", x.share(0, 0, true), 5);
    }

    private static void walk() {
        walk("goer 3 4;", 0, 0, 34);
        walk("goer 5 5;minds 0 0 1;", 0, 0, 55);
        walk("goer 5 5;minds 0 0 1;wrong 0 0 1;", 0, 1, 45);
        walk("goer 5 5;minds 0 10 1;wrong 0 0 1;", 0, NONE, NONE);
        walk("goer 5 5;minds 0 9 1;wrong 0 0 1;", 0, 10, 0);
        walk("stand 0 0;goer 0 0;minds 0 17 1;wrong 0 0 1;", 0, 18, 99);
        walk("stand 0 0;goer 0 0;minds 0 18 1;wrong 0 0 1;", 0, NONE, NONE);
        walk("stand 0 9;goer 9 0;minds 0 18 1;wrong 0 0 1;", 0, NONE, NONE);
        walk("stand 0 9;goer 9 0;minds 0 17 1;wrong 0 0 1;", 0, 0, 90);
        walk("stand 9 9;goer 9 9;minds 0 0 1;wrong 0 0 1;", 0, 1, 89);
        walk("stand 0 0;goer 0 0;minds 0 0 1;wrong 0 0 1;", 0, 1, 1);
        walk(EIGHT + "minds 0 1 9;wrong 7 0 9;", 7, 2, 35);
        UprightFair x = fair(EIGHT);
        int[] others = {-1, 8, LEAST, GREATEST};
        for (int g : others) {
            due("21 no GOER " + g, x.walk(0, g, false), NONE);
            due("21 no GOER " + g, x.walk(0, g, true), NONE);
        }
        due("21 nobody", fair("").walk(0, 0, false), NONE);
        due("21 one beyond", fair("goer 0 0;").walk(0, 1, true), NONE);
    }

    private static void walk(String text, int goer, int far, int where) {
        due("21 how far: " + text, fair(text).walk(0, goer, false), far);
        due("21 where: " + text, fair(text).walk(0, goer, true), where);
    }

    private static void forget() {
        forget("", 0);
        forget("goer 5 5;wrong 0 0 9;", 0);
        forget("minds 0 18 1;".repeat(6), 0);
        forget("goer 5 5;wrong 0 0 9;" + "minds 0 0 9;".repeat(6), 63);
        forget("goer 5 5;wrong 0 0 8;" + "minds 0 0 9;".repeat(5) + "minds 0 0 8;", 32);
        forget("goer 5 6;wrong 0 0 9;minds 0 0 1;minds 0 1 9;minds 1 18 1;", 2);
    }

    private static void forget(String text, int which) {
        due("22 how many: " + text, fair(text).forget(0, false), Integer.bitCount(which));
        due("22 which: " + text, fair(text).forget(0, true), which);
    }

    private static void round() {
        round("", 0);
        round("town 5 5 0 0;", 0, 0);
        round("stand 0 0;town 9 9 30 10;", 36, 0);
        round("town 5 5 0 0;".repeat(6), 0, 0, 1, 2, 3, 4, 5);
        round("stand 0 0;town 0 2 0 0;town 0 1 0 0;", 4, 0, 1);
        round("stand 0 0;town 9 9 0 0;town 0 9 0 0;town 9 0 0 0;town 0 0 0 0;", 36, 1, 0, 2, 3);
        int[] others = {-2, 6, LEAST, GREATEST};
        UprightFair x = fair("town 5 5 0 0;".repeat(6));
        UprightFair none = fair("");
        for (int k : others) {
            due("23 no " + k + "-th", x.round(0, k), NONE);
            due("23 no TOWNS, no " + k + "-th", none.round(0, k), NONE);
        }
    }

    private static void round(String text, int far, int... row) {
        UprightFair x = fair(text);
        due("23 how long: " + text, x.round(0, NONE), far);
        for (int k = 0; k < 8; k++) {
            due("23 the " + k + "-th: " + text, x.round(0, k), k < row.length ? row[k] : NONE);
        }
    }

    private static void centre() {
        int[] others = {-1, 7, -2, LEAST, GREATEST};
        UprightFair x = fair("");
        for (int what : others) {
            due("24 what " + what, x.centre(0, what), -2);
        }
        centre("", 0, 0, 0, 0, 0, 0, 0);
        centre("goer 9 9;", 99, 0, 0, 0, 0, 0, 0);
        for (int place = 0; place < 100; place++) {
            centre("goer " + place / 10 + " " + place % 10 + ";", place, 0, 0, 0, 0, 0, 0);
        }
        centre("goer 0 0;goer 9 9;", 0, 18, 0, 0, 1, 0, 0);
        centre(EIGHT, 55, 0, 0, 0, 28, 0, 0);
        centre(EIGHT + "wrong 7 0 1;", 55, 0, 0, 0, 21, 0, 0);
        centre("goer 9 9;minds 0 0 1;wrong 0 0 1;", 99, 0, 99, 1, 0, 0, 0);
        centre("stand 9 9;goer 9 9;minds 0 0 1;wrong 0 0 1;", 99, 0, 99, 1, 0, 1, 1);
        centre("stand 9 9;goer 9 9;minds 0 18 1;wrong 0 0 9;", 99, 0, 0, 1, 0, 9, 19);
        centre("stand 9 9;goer 9 9;minds 0 17 2;wrong 0 0 9;", 99, 0, 1, 1, 0, 8, 18);
        centre("stand 0 0;goer 9 9;minds 0 18 9;wrong 0 0 9;", 99, 0, 0, 1, 0, 1, 1);
        centre("stand 0 0;goer 9 9;minds 0 17 9;wrong 0 0 9;", 99, 0, 1, 1, 0, 0, 0);
        // By the near one, of LEAST 1, and by the far one, of LEAST 9, he OFFENDS.
        centre("goer 5 5;minds 0 0 1;minds 0 9 9;wrong 0 0 9;", 55, 0, 1, 1, 0, 9, 10);
        centre(EIGHT + "minds 0 0 9;" + wrongs(8, 0, 9), 55, 0, 55, 8, 28, 1, 1);
    }

    private static void centre(String text, int... want) {
        UprightFair x = fair(text);
        for (int what = 0; what < 7; what++) {
            due("24 what " + what + ": " + text, x.centre(0, what), want[what]);
        }
    }

    private static void ring() {
        UprightFair x = fair("stand 0 0;goer 0 0;goer 0 1;goer 9 8;goer 9 9;goer 0 0;goer 9 9;goer 9 0;goer 0 9;");
        int[][] want = {{0, 17}, {1, 19}, {8, 19}, {9, 211}, {16, 211}, {17, 215}, {18, 255}, {-1, NONE}, {19, NONE}, {LEAST, NONE}, {GREATEST, NONE}};
        for (int[] w : want) {
            due("25 r " + w[0], x.ring(0, w[0]), w[1]);
        }
        due("25 nobody", fair("").ring(0, 18), 0);
    }

    private static void ladder() {
        ladder("");
        ladder("goer 0 0;", 0);
        ladder("goer 0 0;".repeat(8), 0);
        ladder("goer 0 0;goer 0 0;wrong 0 5 1;", 1, 0);
        ladder("goer 0 0;goer 0 0;wrong 0 5 1;wrong 1 0 9;", 0);
        ladder("goer 0 0;goer 0 0;wrong 0 5 1;wrong 1 5 1;wrong 1 0 1;", 0, 1);
        StringBuilder eight = new StringBuilder("goer 0 0;".repeat(8));
        for (int g = 0; g < 8; g++) {
            eight.append("wrong " + g + " 3 " + (9 - g) + ";");
        }
        ladder(eight.toString(), 7, 6, 5, 4, 3, 2, 1, 0);
        ladder(eight + "wrong 0 4 1;wrong 7 0 1;", 6, 5, 4, 3, 2, 1, 0);
        UprightFair x = fair(eight.toString());
        int[] others = {-2, 8, LEAST, GREATEST};
        for (int k : others) {
            due("26 no " + k + "-th", x.ladder(0, k), NONE);
        }
    }

    private static void ladder(String text, int... row) {
        UprightFair x = fair(text);
        due("26 how many: " + text, x.ladder(0, NONE), row.length);
        for (int k = 0; k < 9; k++) {
            due("26 the " + k + "-th: " + text, x.ladder(0, k), k < row.length ? row[k] : NONE);
        }
    }

    private static void tunes() {
        int[] others = {-1, 100, LEAST, GREATEST};
        String[] texts = {"", "slant 1;", "slant 9;", "goer 5 5;minds 0 0 1;wrong 0 0 1;"};
        for (String text : texts) {
            UprightFair x = fair(text);
            for (int n : others) {
                due("27 n " + n + ": " + text, x.next(0, n), NONE);
                due("30 n " + n + ": " + text, x.plays(0, n), NONE);
            }
            due("30 of none: " + text, x.plays(0, 0), 0);
            due("27 above 99: " + text, x.next(0, 99), NONE);
        }
        int[][] next = {{0, 0, 1}, {0, 98, 99}, {1, 0, NONE}, {1, 98, NONE}, {2, 0, 1}, {2, 1, 3}, {2, 97, 99}, {2, 98, 99}, {9, 7, 8}, {9, 8, 10},
            {9, 97, 98}, {9, 98, NONE}, {3, 98, NONE}, {4, 98, 99}};
        for (int[] row : next) {
            due("27 SLANT " + row[0] + " above " + row[1], fair("slant " + row[0] + ";").next(0, row[1]), row[2]);
        }
        int[][] plays = {{0, 1, 1}, {0, 99, 99}, {1, 1, 0}, {1, 99, 0}, {2, 1, 1}, {2, 2, 1}, {2, 99, 50}, {9, 8, 8}, {9, 9, 8}, {9, 98, 88}, {9, 99, 88}};
        for (int[] row : plays) {
            due("30 SLANT " + row[0] + " of " + row[1], fair("slant " + row[0] + ";").plays(0, row[1]), row[2]);
        }
        UprightFair x = fair("goer 5 5;minds 0 0 1;wrong 0 0 1;");
        due("27 someone OFFENDS", x.next(0, 0), NONE);
        due("30 someone OFFENDS", x.plays(0, 99), 0);
    }

    private static void purse() {
        int[] others = {-1, 100, LEAST, GREATEST};
        UprightFair none = fair("");
        StringBuilder six = new StringBuilder();
        for (int k = 0; k < 6; k++) {
            six.append("confess " + (1 << k) + " " + (k == 0 ? 19 : 20) + ";");
        }
        UprightFair x = fair(six.toString());
        for (int p : others) {
            due("28 p " + p, x.purse(0, p, false), NONE);
            due("28 p " + p, x.purse(0, p, true), NONE);
            due("28 none, p " + p, none.purse(0, p, true), NONE);
        }
        int[][] want = {{0, 0, 0}, {18, 0, 0}, {19, 1, 1}, {20, 1, 1}, {38, 1, 1}, {39, 2, 3}, {98, 4, 15}, {99, 5, 31}};
        for (int[] w : want) {
            due("28 of " + w[0] + ", how many", x.purse(0, w[0], false), w[1]);
            due("28 of " + w[0] + ", which", x.purse(0, w[0], true), w[2]);
        }
        due("28 no CONFESSIONS", none.purse(0, 99, false), 0);
        due("28 no CONFESSIONS", none.purse(0, 99, true), 0);
        x = fair("confess 63 20;confess 31 0;confess 32 0;");
        due("28 for nothing", x.purse(0, 0, false), 6);
        due("28 for nothing", x.purse(0, 0, true), 6);
        due("28 of several the least number", x.purse(0, 20, true), 1);
        x = fair("confess 3 1;confess 6 1;");
        due("28 a KIND of both is one", x.purse(0, 2, false), 3);
        due("28 a KIND of both is one", x.purse(0, 2, true), 3);
        due("28 all six", fair("confess 1 1;confess 2 1;confess 4 1;confess 8 1;confess 16 1;confess 32 1;").purse(0, 6, true), 63);
    }

    private static void calm() {
        int[] others = {-1, 11, LEAST, GREATEST};
        UprightFair none = fair("");
        UprightFair x = fair(EIGHT + "minds 0 0 1;" + wrongs(8, 0, 1));
        for (int p : others) {
            due("29 p " + p, x.calm(0, p, false), NONE);
            due("29 p " + p, x.calm(0, p, true), NONE);
            due("29 nobody, p " + p, none.calm(0, p, true), NONE);
        }
        long[][] eight = {{0, 1, 1}, {1, 43046721, 100000000}, {2, 65536, 390625}, {5, 1, 256}, {9, 1, 100000000}, {10, 0, 1}};
        for (long[] w : eight) {
            due("29 eight, N of " + w[0], x.calm(0, (int) w[0], false), w[1]);
            due("29 eight, D of " + w[0], x.calm(0, (int) w[0], true), w[2]);
        }
        for (int p = 0; p <= 10; p++) {
            due("29 nobody, N of " + p, none.calm(0, p, false), 1);
            due("29 nobody, D of " + p, none.calm(0, p, true), 1);
        }
        due("29 eight, but nobody OFFENDS", fair(EIGHT).calm(0, 10, false), 1);
    }

    private static void guess() {
        int[] others = {-1, 9, LEAST, GREATEST};
        String eight = EIGHT + "minds 0 0 1;";
        UprightFair x = fair(eight + wrongs(4, 0, 1));
        for (int n : others) {
            due("31 n " + n, x.guess(0, n, false), NONE);
            due("31 n " + n, x.guess(0, n, true), NONE);
        }
        int[][] want = {{0, 0, 1}, {3, 0, 1}, {4, 1, 70}, {5, 1, 14}, {6, 3, 14}, {7, 1, 2}, {8, 1, 1}};
        for (int[] w : want) {
            due("31 four of eight, N of " + w[0], x.guess(0, w[0], false), w[1]);
            due("31 four of eight, D of " + w[0], x.guess(0, w[0], true), w[2]);
        }
        x = fair(eight + wrongs(8, 0, 1));
        due("31 all of eight by seven", x.guess(0, 7, false), 0);
        due("31 all of eight by eight", x.guess(0, 8, true), 1);
        due("31 nobody OFFENDS", fair(EIGHT).guess(0, 0, false), 1);
        for (int goers = 0; goers <= 8; goers++) {
            x = fair("goer 0 0;".repeat(goers));
            due("31 as many as there are", x.guess(0, goers, true), 1);
            due("31 one more than there are", x.guess(0, goers + 1, true), NONE);
            due("31 one more than there are", x.guess(0, goers + 1, false), NONE);
        }
    }

    public static void main(String[] args) {
        asTold();
        whoOffends();
        mend();
        quiet();
        asking();
        confess();
        route();
        turns();
        upright();
        idleAndBroad();
        treeAndNearest();
        share();
        walk();
        forget();
        round();
        centre();
        ring();
        ladder();
        tunes();
        purse();
        calm();
        guess();
        check.end("FairBoundaries");
    }
}
