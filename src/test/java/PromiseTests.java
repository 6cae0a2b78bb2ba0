/** Each promise by its number: ordinary inputs, the edges that the document names, wrong inputs. */
public final class PromiseTests {
    private static final int NONE = UprightFair.NONE;
    private static final String FAIR =
        "stand 2 2;slant 4;minds 0 3 2;minds 1 18 5;goer 2 3;goer 5 5;goer 2 2;wrong 0 0 3;wrong 0 1 1;"
        + "wrong 1 0 9;wrong 1 1 5;wrong 2 2 4;confess 1 7;confess 2 4;confess 3 10;confess 60 1;"
        + "town 2 5 10 5;town 9 9 30 10;town 2 1 3 10;";
    private static final String DAY =
        "tune;ask 0;ask 2;mend 0 0 2;walk 1 9 9;tune;mend 1 1 1;tune;tune;fit;tune;do 2 0 9;tune;fit;";
    private static final Check check = new Check();

    private static void due(String call, long got, long want) {
        check.due(call, got, want);
    }

    private static void due(String call, boolean got, boolean want) {
        check.due(call, got, want);
    }

    private static UprightFair fair(String text) {
        return Check.with(0, text);
    }

    /** A FAIR 0, a DAY 0, and nothing else. */
    private static UprightFair fairAndDay(String fair, String day) {
        UprightFair x = fair(fair);
        Check.tell(x, 1, day);
        return x;
    }

    private static void newObject() {
        UprightFair x = new UprightFair();
        for (int sort = 0; sort < 3; sort++) {
            due("1 count", x.count(sort), 0);
        }
        for (int k = 0; k < 3; k++) {
            due("1 again", x.again(k), false);
        }
        due("1 tape", x.end(1), NONE);
        due("1 fault", x.fault(0), 0);
        due("1 fault place", x.fault(1), NONE);
        due("1 NONE", NONE, -1);
    }

    private static void tape() {
        UprightFair x = new UprightFair();
        for (int i = 1; i <= 30; i++) {
            due("2 feed", x.feed(0x74756e65, 0x3b202020, 0x20202020, 0x20202020, 0x20202020), 20 * i);
        }
        due("2 feed beyond 600", x.feed(1, 2, 3, 4, 5), NONE);
        due("2 nothing came", x.end(601), NONE);
        due("3 end at all", x.end(600), 600);
        due("3 end below 0", x.end(-1), NONE);
        due("3 end", x.end(581), 581);
        due("3 end beyond", x.end(582), NONE);
        due("2 feed over 600 by one", x.feed(1, 2, 3, 4, 5), NONE);
        due("3 end", x.end(580), 580);
        due("2 feed up to 600", x.feed(0x6669743b, 0x20202020, 0x20202020, 0x20202020, 0x20202020), 600);
        due("2 read", x.text(1, NONE), 0);
        due("2 highest byte first", x.deed(0, NONE, 0), 30);
        due("2 behind the others", x.deed(0, 29, 0), 1);
        due("4 the tape is empty then", x.end(1), NONE);
        due("3 end 0", x.end(0), 0);
    }

    private static void texts() {
        UprightFair x = new UprightFair();
        for (int sort = 0; sort < 3; sort++) {
            due("4 none in whose place", x.text(sort, 0), -2);
            due("4 empty text", x.text(sort, NONE), 0);
            due("4 a second", x.text(sort, NONE), 1);
            due("4 a third", x.text(sort, NONE), -2);
            due("4 in the place of one", x.text(sort, 1), 1);
            due("4 in the place of none", x.text(sort, 2), -2);
            due("4 below NONE", x.text(sort, -2), -2);
            due("35 count", x.count(sort), 2);
        }
        due("4 no such sort", x.text(3, NONE), -2);
        due("4 no such sort", x.text(-1, 0), -2);
        due("35 no such sort", x.count(3), -2);
        due("35 no such sort", x.count(-1), -2);
        Check.tape(x, "slant 10;");
        due("4 a fault", x.text(0, 1), NONE);
        due("4 taken all the same", x.end(1), NONE);
        due("5 fault", x.fault(0), 2);
        due("5 place", x.fault(1), 6);
        due("5 another what", x.fault(2), NONE);
        due("5 another what", x.fault(-1), NONE);
        Check.tape(x, "slant 3;");
        due("4 in the place of one", x.text(0, 1), 1);
        due("4 in the place", x.fair(1, 2), 3);
        due("4 the other stays", x.fair(0, 2), 0);
        Check.tape(x, "slant 4;stand 0 0");
        due("4 a fault in the place of one", x.text(0, 1), NONE);
        due("4 which stays", x.fair(1, 2), 3);
    }

    /** Every text() takes the tape, also one that reads no text. */
    private static void refusedTexts() {
        int[][] refused = {{0, 0}, {0, 1}, {1, 0}, {2, 0}, {0, -2}, {0, 2}, {3, NONE}, {-1, NONE}, {3, 0}};
        for (int[] to : refused) {
            UprightFair x = new UprightFair();
            due("4 a fault", Check.tell(x, 0, "slant 10;"), NONE);
            Check.tape(x, "slant 3;");
            due("4 refused", x.text(to[0], to[1]), -2);
            due("4 the tape is empty then", x.end(1), NONE);
            due("5 FAULT 0", x.fault(0), 0);
            due("5 no place", x.fault(1), NONE);
            due("2 behind an empty tape", x.feed(0x20202020, 0x20202020, 0x20202020, 0x20202020, 0x20202020), 20);
            due("4 no text is read", x.count(0), 0);
            due("4 what came since alone", x.text(0, NONE), 0);
            due("4 nothing of the refused one", x.fair(0, 2), 0);
        }
        for (int sort = 0; sort < 3; sort++) {
            UprightFair x = new UprightFair();
            due("4 the first", x.text(sort, NONE), 0);
            due("4 the second", x.text(sort, NONE), 1);
            Check.tape(x, "tune");
            due("4 as many as may be", x.text(sort, NONE), -2);
            due("4 the tape is empty then", x.end(1), NONE);
            due("5 FAULT 0 of no text", x.fault(0), 0);
            due("4 an image has it so", x.image(0) && x.feed(0, 0, 0, 0, 0) == 20 && x.again(0), true);
            due("37 the empty tape again", x.end(1), NONE);
        }
    }

    private static void fault(int sort, String text, int fault, int place) {
        UprightFair x = new UprightFair();
        due("4 text of '" + text + "'", Check.tell(x, sort, text), fault == 0 ? 0 : NONE);
        due("5 fault of '" + text + "'", x.fault(0), fault);
        due("5 place of '" + text + "'", x.fault(1), place);
        due("4 count after '" + text + "'", x.count(sort), fault == 0 ? 1 : 0);
    }

    private static void faultsOfForm() {
        fault(0, "", 0, NONE);
        fault(0, " \n ", 0, NONE);
        fault(0, "stand5 5;slant\n7 ;", 0, NONE);
        fault(0, "stand 05 9;", 0, NONE);
        fault(0, "stand 5 5", 1, 9);
        fault(0, "stand 5 5  ", 1, 11);
        fault(0, "stand 5", 1, 7);
        fault(0, "stand", 1, 5);
        fault(0, "stan", 1, 0);
        fault(0, " standing 5 5;", 1, 1);
        fault(0, "stand 5 ;", 1, 8);
        fault(0, "stand 5 5 5;", 1, 10);
        fault(0, "stand 555 5;", 1, 6);
        fault(0, "stand 5 005;", 1, 8);
        fault(0, "stand 5 5;;", 1, 10);
        fault(0, ";", 1, 0);
        fault(0, "5;", 1, 0);
        fault(0, "tune;", 1, 0);
        fault(0, "Stand 5 5;", 1, 0);
        fault(0, "stand 5,5;", 1, 7);
        fault(0, "stand 5\t5;", 1, 7);
        fault(0, "stand 5 5;\u00ff", 1, 10);
        fault(0, "stand 5 5;\0", 1, 10);
        fault(0, "stand 10 10;slant 99;minds", 1, 26);
        fault(0, "sta nd 5 5;", 1, 0);
        fault(1, "tune;fit;ask 0;walk 0 9 9;mend 7 5 9;do 0 0 1;", 0, NONE);
        fault(1, "tune 1;", 1, 5);
        fault(1, "stand 5 5;", 1, 0);
        fault(1, "walk 0 0;", 1, 8);
        fault(1, "do 0 0 1 ;fit", 1, 13);
        fault(2, "lies 8;stopped 0;played 63;", 0, NONE);
        fault(2, "played;", 1, 6);
        fault(2, "stopped 1 1;", 1, 10);
        fault(2, "wrong 0 0 0;", 1, 0);
    }

    private static void faultsOfNumbers() {
        fault(0, "stand 10 0;", 2, 6);
        fault(0, "stand 0 10;", 2, 8);
        fault(0, "slant 10;", 2, 6);
        fault(0, "minds 6 0 1;", 2, 6);
        fault(0, "minds 5 18 9;", 0, NONE);
        fault(0, "minds 0 19 1;", 2, 8);
        fault(0, "minds 0 0 0;", 2, 10);
        fault(0, "minds 0 0 10;", 2, 10);
        fault(0, "goer 10 0;", 2, 5);
        fault(0, "goer 0 10;", 2, 7);
        fault(0, "wrong 8 0 1;", 2, 6);
        fault(0, "wrong 0 6 1;", 2, 8);
        fault(0, "wrong 0 0 10;", 2, 10);
        fault(0, "confess 0 1;", 2, 8);
        fault(0, "confess 63 20;", 0, NONE);
        fault(0, "confess 64 1;", 2, 8);
        fault(0, "confess 1 21;", 2, 10);
        fault(0, "town 10 0 0 0;", 2, 5);
        fault(0, "town 0 10 0 0;", 2, 7);
        fault(0, "town 0 0 31 0;", 2, 9);
        fault(0, "town 0 0 0 11;", 2, 11);
        fault(0, "town 9 9 30 10;", 0, NONE);
        fault(1, "ask 8;", 2, 4);
        fault(1, "walk 8 0 0;", 2, 5);
        fault(1, "walk 0 10 0;", 2, 7);
        fault(1, "walk 0 0 10;", 2, 9);
        fault(1, "mend 8 0 1;", 2, 5);
        fault(1, "mend 0 6 1;", 2, 7);
        fault(1, "mend 0 0 0;", 2, 9);
        fault(1, "do 0 0 10;", 2, 7);
        fault(1, "do 0 0 0;", 2, 7);
        fault(2, "lies 9;", 2, 5);
        fault(2, "stopped 64;", 2, 8);
        fault(2, "played 64;", 2, 7);
    }

    private static void faultsOfMany() {
        fault(0, "minds 0 0 1;".repeat(6), 0, NONE);
        fault(0, "minds 0 0 1;".repeat(7), 3, 72);
        fault(0, "goer 0 0;".repeat(8), 0, NONE);
        fault(0, "goer 0 0;".repeat(9), 3, 72);
        fault(0, "confess 1 1;".repeat(7), 3, 72);
        fault(0, "town 0 0 0 0;".repeat(7), 3, 78);
        fault(1, "tune;".repeat(40), 0, NONE);
        fault(1, "tune;".repeat(41), 3, 200);
        fault(2, "played 0;".repeat(8), 0, NONE);
        fault(2, "played 0;".repeat(8) + "stopped 0;", 3, 72);
        fault(2, "lies 0;".repeat(9), 0, NONE);
        fault(0, "goer 0 0;".repeat(8) + "goer 10 0;slant 10;", 3, 72);
        fault(0, "goer 0 0;".repeat(8) + "slant 10;goer 10 0;", 2, 78);
        fault(0, "goer 0 0;".repeat(9) + "goer", 1, 85);
        fault(0, "wrong 0 0 1;", 4, 12);
        fault(0, "wrong 1 0 0;goer 0 0;  ", 4, 23);
        fault(0, "wrong 1 0 0;slant 10;", 2, 18);
        fault(0, "wrong 1 0 4;goer 0 0;goer 0 0;", 0, NONE);
    }

    private static void fairAsTold() {
        UprightFair x = fair(FAIR);
        int[] want = {2, 2, 4, 2, 3, 4, 3, NONE, NONE, NONE, 0, 1, NONE, NONE};
        for (int what = 0; what < want.length; what++) {
            due("6 fair what " + what, x.fair(0, what), want[what]);
        }
        due("6 reach", x.fair(0, 21), 18);
        due("6 least", x.fair(0, 30), 2);
        due("6 least", x.fair(0, 31), 5);
        due("6 no such minds", x.fair(0, 32), NONE);
        due("6 x", x.fair(0, 40), 2);
        due("6 y", x.fair(0, 50), 3);
        due("6 no such goer", x.fair(0, 43), NONE);
        due("6 no such goer", x.fair(0, 59), NONE);
        due("6 kinds", x.fair(0, 63), 60);
        due("6 price", x.fair(0, 72), 10);
        due("6 no such confession", x.fair(0, 64), NONE);
        due("6 what 80", x.fair(0, 80), NONE);
        due("6 what 99", x.fair(0, 99), NONE);
        due("6 wrongs", x.fair(0, 111), 5);
        due("6 wrongs", x.fair(0, 122), 4);
        due("6 wrongs 0", x.fair(0, 125), 0);
        due("6 no such kind", x.fair(0, 106), NONE);
        due("6 no such goer", x.fair(0, 130), NONE);
        due("6 town", x.fair(0, 210), 9);
        due("6 town", x.fair(0, 212), 30);
        due("6 town", x.fair(0, 213), 10);
        due("6 town", x.fair(0, 221), 1);
        due("6 no such", x.fair(0, 214), NONE);
        due("6 no such town", x.fair(0, 230), NONE);
        due("6 another what", x.fair(0, -1), NONE);
        due("6 another what", x.fair(0, Integer.MAX_VALUE), NONE);
        due("6 another what", x.fair(0, Integer.MIN_VALUE), NONE);
        due("6 no such fair", x.fair(1, 0), NONE);
        due("6 no such fair", x.fair(-1, 0), NONE);
        x = fair("stand 1 2;slant 3;stand 4 3;slant 0;goer 0 0;goer 0 0;wrong 0 0 3;wrong 0 0 2;goer 9 9;");
        due("6 later ones strike", x.fair(0, 0), 4);
        due("6 later ones strike", x.fair(0, 1), 3);
        due("6 later ones strike", x.fair(0, 2), 0);
        due("6 later ones strike", x.fair(0, 100), 2);
        due("6 further ones", x.fair(0, 4), 3);
        x = fair("");
        due("6 at first", x.fair(0, 0), 5);
        due("6 at first", x.fair(0, 1), 5);
        due("6 at first", x.fair(0, 2), 0);
        x = fair("wrong 0 5 9;goer 1 2;");
        due("6 told before he comes", x.fair(0, 105), 9);
    }

    private static void deeds() {
        UprightFair x = Check.with(1, "tune;fit;ask 3;walk 1 2 4;mend 5 4 3;do 7 5 9;");
        int[][] want = {{0, NONE, NONE, NONE}, {1, NONE, NONE, NONE}, {2, 3, NONE, NONE}, {3, 1, 2, 4}, {4, 5, 4, 3}, {5, 7, 5, 9}};
        due("7 how many", x.deed(0, NONE, 0), 6);
        due("7 how many, another what", x.deed(0, NONE, 1), -2);
        for (int k = 0; k < 6; k++) {
            for (int what = 0; what < 4; what++) {
                due("7 deed " + k + " what " + what, x.deed(0, k, what), want[k][what]);
            }
        }
        due("7 no such deed", x.deed(0, 6, 0), -2);
        due("7 no such deed", x.deed(0, -2, 0), -2);
        due("7 another what", x.deed(0, 0, 4), -2);
        due("7 another what", x.deed(0, 0, -1), -2);
        due("7 no such day", x.deed(1, 0, 0), -2);
        due("7 no such day", x.deed(-1, NONE, 0), -2);
    }

    private static void days() {
        UprightFair x = fairAndDay(FAIR, DAY);
        due("8 till", x.till(0, 0), 13);
        due("8 no such fair", x.till(1, 0), NONE);
        due("8 no such day", x.till(0, 1), NONE);
        due("8 all can be", fairAndDay(FAIR, "tune;tune;").till(0, 0), 2);
        due("8 no such goer", fairAndDay(FAIR, "tune;ask 3;").till(0, 0), 1);
        due("8 no such goer walks", fairAndDay(FAIR, "walk 3 0 0;").till(0, 0), 0);
        due("8 too few to mend", fairAndDay(FAIR, "mend 0 0 3;mend 0 0 1;").till(0, 0), 1);
        due("8 nine together", fairAndDay(FAIR, "do 0 0 6;do 0 0 1;").till(0, 0), 1);
        due("8 fit once", fairAndDay(FAIR, "fit;fit;").till(0, 0), 1);
        int[][] behind = {
            {0, 0, 0, 4, 3, 0, 0, NONE}, {1, 1, 1, 4, 3, 0, 0, 1}, {3, 1, 1, 4, 3, 5, 1, 1}, {4, 1, 1, 4, 2, 5, 1, 1},
            {6, 2, 2, 4, 2, 5, 1, 1}, {8, 3, 2, 4, 0, 5, 1, 0}, {9, 4, 3, 4, 0, 5, 1, 1}, {11, 5, 3, 0, 0, 5, 1, 0},
            {12, 5, 3, 0, 4, 5, 1, 0}, {13, 6, 4, 0, 4, 5, 1, 1}};
        for (int[] row : behind) {
            for (int what = 0; what < 7; what++) {
                due("9 state behind " + row[0] + " what " + what, x.state(0, 0, row[0], what), row[what + 1]);
            }
        }
        due("9 beyond END", x.state(0, 0, 14, 0), -2);
        due("9 below 0", x.state(0, 0, -1, 0), -2);
        due("9 beyond the deeds", x.state(0, 0, 15, 0), -2);
        due("9 what 7", x.state(0, 0, 0, 7), -2);
        due("9 what -1", x.state(0, 0, 0, -1), -2);
        due("9 x", x.state(0, 0, 5, 11), 9);
        due("9 y", x.state(0, 0, 5, 21), 9);
        due("9 x before", x.state(0, 0, 4, 11), 5);
        due("9 no such goer", x.state(0, 0, 4, 13), -2);
        due("9 no such goer", x.state(0, 0, 4, 18), -2);
        due("9 what 30", x.state(0, 0, 4, 30), -2);
        due("9 wrongs", x.state(0, 0, 4, 100), 1);
        due("9 wrongs", x.state(0, 0, 12, 120), 9);
        due("9 no such kind", x.state(0, 0, 4, 106), -2);
        due("9 no such goer", x.state(0, 0, 4, 130), -2);
        due("9 no such fair", x.state(1, 0, 0, 0), -2);
        due("9 no such day", x.state(0, 1, 0, 0), -2);
        due("9 the fair is as told", x.fair(0, 100), 3);
        int[] after = {1, 1, 3, 9, 2, 8, -2};
        for (int what = 0; what < after.length; what++) {
            due("32 after what " + what, x.after(0, 0, what), after[what]);
        }
        due("32 no such fair", x.after(1, 0, 0), -2);
        due("32 no such day", x.after(0, 1, 0), -2);
        due("32 what -1", x.after(0, 0, -1), -2);
        x = fairAndDay("slant 3;goer 0 0;", "tune;tune;walk 0 0 3;walk 0 9 9;ask 0;ask 0;tune;fit;tune;tune;do 0 1 2;tune;");
        due("32 FIRST by slant", x.after(0, 0, 0), 3);
        due("32 LONGEST", x.after(0, 0, 1), 3);
        due("32 ASKS of one", x.after(0, 0, 4), 2);
        due("32 FAR", x.after(0, 0, 5), 15);
        due("32 no tune stops", fairAndDay("", "tune;").after(0, 0, 0), NONE);
        due("32 no tune", fairAndDay("", "").after(0, 0, 1), 0);
        x = fairAndDay("goer 5 5;minds 0 0 1;wrong 0 0 1;", "ask 0;mend 0 0 1;ask 0;");
        due("9 found, though he mends", x.state(0, 0, 3, 5), 1);
    }

    private static void mendAndQuiet() {
        UprightFair x = fair(FAIR);
        due("10 mend", x.mend(0, 0), 2);
        due("10 mend", x.mend(0, 1), 1);
        due("10 mend", x.mend(0, 2), 0);
        due("10 no such goer", x.mend(0, 3), NONE);
        due("10 no such goer", x.mend(0, -1), NONE);
        due("10 no such fair", x.mend(1, 0), NONE);
        due("10 two minds of a kind", fair("goer 5 5;minds 3 0 4;minds 3 0 2;wrong 0 3 9;minds 1 9 9;wrong 0 1 9;").mend(0, 0), 9);
        due("11 nowhere", x.quiet(0, false), 0);
        due("11 nowhere", x.quiet(0, true), NONE);
        due("11 no such fair", x.quiet(1, false), -2);
        due("11 no such fair", x.quiet(-1, true), -2);
        x = fair("");
        due("11 everywhere", x.quiet(0, false), 100);
        due("11 here", x.quiet(0, true), 55);
        x = fair("goer 5 5;minds 0 1 1;wrong 0 0 1;");
        due("11 but five", x.quiet(0, false), 95);
        due("11 of several the least", x.quiet(0, true), 35);
    }

    private static void askingAndConfess() {
        UprightFair x = fair(FAIR);
        due("12 N", x.asking(0, 0), 7);
        due("12 D", x.asking(0, 1), 5);
        due("12 for sure", x.asking(0, 2), 2);
        due("12 another what", x.asking(0, 3), NONE);
        due("12 another what", x.asking(0, -1), NONE);
        due("12 no such fair", x.asking(1, 0), NONE);
        due("12 no goers", fair("").asking(0, 2), NONE);
        x = fair("goer 0 0;");
        due("12 one N", x.asking(0, 0), 0);
        due("12 one D", x.asking(0, 1), 1);
        due("12 one for sure", x.asking(0, 2), 0);
        x = fair("goer 0 0;".repeat(8) + "wrong 0 0 9;wrong 0 1 9;wrong 0 2 9;");
        due("12 eight N", x.asking(0, 0), 11);
        due("12 eight D", x.asking(0, 1), 7);
        due("12 eight for sure", x.asking(0, 2), 3);
        due("12 five for sure", fair("goer 0 0;".repeat(5)).asking(0, 2), 3);
        x = fair(FAIR);
        due("13 how much", x.confess(0, false), 10);
        due("13 which", x.confess(0, true), 4);
        due("13 no such fair", x.confess(1, false), NONE);
        due("13 by none", fair("minds 4 0 9;goer 0 0;wrong 0 4 1;confess 15 0;").confess(0, false), NONE);
        due("13 by none", fair("minds 4 0 9;goer 0 0;wrong 0 4 1;confess 15 0;").confess(0, true), NONE);
        due("13 nothing needed", fair("minds 4 0 9;goer 0 0;confess 15 0;").confess(0, true), 0);
        due("13 nothing needed", fair("goer 0 0;wrong 0 1 1;confess 15 3;").confess(0, false), 0);
        x = fair("minds 0 0 1;minds 1 0 1;goer 9 9;wrong 0 0 1;wrong 0 1 1;confess 3 9;confess 1 4;confess 2 5;");
        due("13 of several the least", x.confess(0, true), 1);
        due("13 of several the least", x.confess(0, false), 9);
    }

    private static void routeAndRound() {
        UprightFair x = fair(FAIR);
        due("14 how much", x.route(0, 0), 220);
        due("14 how many", x.route(0, 1), 3);
        due("14 first", x.route(0, 10), 2);
        due("14 second", x.route(0, 11), 0);
        due("14 third", x.route(0, 12), 1);
        due("14 no fourth", x.route(0, 13), -2);
        due("14 another what", x.route(0, 2), -2);
        due("14 another what", x.route(0, 9), -2);
        due("14 another what", x.route(0, -1), -2);
        due("14 no such fair", x.route(1, 0), -2);
        x = fair("town 0 0 0 0;town 5 6 1 10;");
        due("14 nothing is best, of fewest", x.route(0, 0), 0);
        due("14 nothing is best, of fewest", x.route(0, 1), 0);
        due("14 no first", x.route(0, 10), -2);
        x = fair("town 5 7 3 10;town 5 7 3 10;town 5 5 0 9;");
        due("14 first by numbers", x.route(0, 10), 0);
        due("14 first by numbers", x.route(0, 11), 1);
        due("14 first by numbers", x.route(0, 12), -2);
        due("23 how long", fair(FAIR).round(0, NONE), 30);
        x = fair(FAIR);
        due("23 first", x.round(0, 0), 0);
        due("23 second", x.round(0, 1), 1);
        due("23 third", x.round(0, 2), 2);
        due("23 no fourth", x.round(0, 3), NONE);
        due("23 below NONE", x.round(0, -2), NONE);
        due("23 no such fair", x.round(1, NONE), NONE);
        due("23 no towns", fair("").round(0, NONE), 0);
        due("23 no towns", fair("").round(0, 0), NONE);
        x = fair("stand 0 0;town 9 9 0 0;town 0 9 0 0;town 9 0 0 0;");
        due("23 round", x.round(0, NONE), 36);
        due("23 round first", x.round(0, 0), 1);
        due("23 round second", x.round(0, 1), 0);
    }

    private static void turns() {
        UprightFair x = fair(FAIR);
        int[] many = {2, 1, 1, 0, 0};
        int[] whom = {NONE, 0, 0, 0, 0};
        for (int n = 0; n < 5; n++) {
            due("15 how many, n " + n, x.byTurns(0, n, false), many[n]);
            due("15 whom, n " + n, x.byTurns(0, n, true), whom[n]);
        }
        due("15 another n", x.byTurns(0, 5, false), -9);
        due("15 another n", x.byTurns(0, -1, true), -9);
        due("15 no such fair", x.byTurns(1, 0, false), -9);
        due("15 nothing", fair("").byTurns(0, 1, true), 8);
        due("15 of all that are best the least", fair("goer 0 0;").byTurns(0, 3, true), 0);
        x = fair("goer 0 0;goer 0 1;goer 5 5;minds 0 0 1;wrong 0 0 1;wrong 1 0 1;wrong 2 0 1;");
        int[] then = {1, 0, 1, 0, 1};
        for (int n = 0; n < 5; n++) {
            due("15 how many, n " + n, x.byTurns(0, n, false), then[n]);
        }
        due("15 whom", x.byTurns(0, 1, true), 2);
        due("15 whom", x.byTurns(0, 2, true), 2);
    }

    private static void logs() {
        UprightFair x = Check.with(2, "stopped 3;lies 2;played 4;lies 0;");
        int[] want = {0, 2, NONE, NONE, NONE, NONE, NONE, NONE, NONE, NONE, 1, 0, NONE};
        for (int what = 0; what < want.length; what++) {
            due("16 log what " + what, x.log(0, what), want[what]);
        }
        due("16 kinds", x.log(0, 20), 3);
        due("16 kinds", x.log(0, 21), 4);
        due("16 no such fact", x.log(0, 22), NONE);
        due("16 another what", x.log(0, -1), NONE);
        due("16 another what", x.log(0, 30), NONE);
        due("16 no such log", x.log(1, 0), NONE);
        due("17 how many", x.fits(0, 0), 24);
        due("17 ASK", x.fits(0, 1), 8);
        int[] sure = {NONE, NONE, 0, NONE, NONE, NONE};
        for (int k = 0; k < 6; k++) {
            due("17 SURE of " + k, x.fits(0, 2 + k), sure[k]);
        }
        due("17 what 8", x.fits(0, 8), -2);
        due("17 what 9", x.fits(0, 9), -2);
        due("17 first", x.fits(0, 10), 1);
        due("17 fourth", x.fits(0, 13), 9);
        due("17 last", x.fits(0, 33), 59);
        due("17 no more", x.fits(0, 34), -2);
        due("17 another what", x.fits(0, -1), -2);
        due("17 no such log", x.fits(1, 0), -2);
        due("33 N", x.odds(0, 1, false), 2);
        due("33 D", x.odds(0, 1, true), 3);
        due("33 never", x.odds(0, 4, false), 0);
        due("33 never", x.odds(0, 0, true), 1);
        due("33 always", x.odds(0, 63, false), 1);
        due("33 no kinds", x.odds(0, 64, false), NONE);
        due("33 no kinds", x.odds(0, -1, false), NONE);
        due("33 no such log", x.odds(1, 0, false), NONE);
        due("34 SMALL", x.small(0, 0), 1);
        due("34 LARGE", x.small(0, 1), 5);
        due("34 TRUE", x.small(0, 2), 0);
        due("34 NEEDLESS", x.small(0, 3), 0);
        due("34 another what", x.small(0, 4), -2);
        due("34 another what", x.small(0, -1), -2);
        due("34 no such log", x.small(1, 0), -2);
    }

    private static void logsWithLies() {
        UprightFair x = Check.with(2, "stopped 0;");
        due("17 nothing fits", x.fits(0, 0), 0);
        due("17 ASK of none", x.fits(0, 1), NONE);
        due("17 SURE of none", x.fits(0, 2), NONE);
        due("17 first of none", x.fits(0, 10), -2);
        due("33 of none", x.odds(0, 1, true), NONE);
        due("34 SMALL of none", x.small(0, 0), NONE);
        due("34 LARGE of none", x.small(0, 1), NONE);
        due("34 TRUE", x.small(0, 2), 1);
        due("34 NEEDLESS of none", x.small(0, 3), 0);
        x = Check.with(2, "lies 1;stopped 1;played 1;stopped 0;");
        due("17 two lies at least", x.fits(0, 0), 0);
        due("34 TRUE", x.small(0, 2), 2);
        due("34 without any one all fit", x.small(0, 3), 0);
        x = Check.with(2, "lies 1;stopped 1;stopped 1;played 2;played 0;");
        due("17 with a lie", x.fits(0, 0), 32);
        due("17 SURE 1", x.fits(0, 2), 1);
        due("17 SURE neither", x.fits(0, 3), NONE);
        due("34 NEEDLESS", x.small(0, 3), 12);
        x = Check.with(2, "");
        due("17 all fit", x.fits(0, 0), 64);
        due("17 ASK", x.fits(0, 1), 1);
        due("17 the last", x.fits(0, 73), 63);
        due("34 SMALL", x.small(0, 0), 0);
        due("34 LARGE", x.small(0, 1), 6);
        due("34 no facts", x.small(0, 3), 0);
    }

    private static void drawn() {
        UprightFair x = fair(FAIR);
        for (int what = 0; what < 7; what++) {
            due("18 drawn 0 times", x.drawn(0, 77, 0, what), new int[] {0, 0, 4, 3, 0, 0, NONE}[what]);
        }
        due("18 another n", x.drawn(0, 1, -1, 0), -2);
        due("18 another n", x.drawn(0, 1, 61, 0), -2);
        due("18 another what", x.drawn(0, 1, 60, 7), -2);
        due("18 no such goer", x.drawn(0, 1, 60, 13), -2);
        due("18 no such fair", x.drawn(1, 1, 1, 0), -2);
        // By hand: from 1 come 16838 and 38526: of ten 8, ask, of three 0.
        due("18 asked", x.drawn(0, 1, 1, 4), 1);
        due("18 found", x.drawn(0, 1, 1, 5), 1);
        // With eight 38526 is 6; without any no further number is drawn, so 38526, of ten 6, does nothing, either.
        due("18 asked of eight", fair("goer 0 0;".repeat(8)).drawn(0, 1, 1, 4), 64);
        due("18 nothing is done without goers", fair("").drawn(0, 1, 2, 0), 0);
        // With one: 16838 and 38526 ask him; 10113, of ten 3, walk, 50283 him, to 63819 and 38395, of ten each.
        x = fair("goer 0 0;");
        due("18 walks, x", x.drawn(0, 1, 2, 10), 9);
        due("18 walks, y", x.drawn(0, 1, 2, 20), 5);
    }

    private static void upright() {
        UprightFair x = fair(FAIR);
        int[] want = {0, 1, 0, 7, 0, 6, 2, 1, 0, 1, -2};
        for (int what = 0; what < want.length; what++) {
            due("19 upright what " + what, x.upright(0, what), want[what]);
        }
        due("19 what -1", x.upright(0, -1), -2);
        due("19 no such fair", x.upright(1, 0), -2);
        x = fair("");
        int[] empty = {0, NONE, 0, 0, 0, 0, NONE, 0, NONE, 0};
        for (int what = 0; what < empty.length; what++) {
            due("19 upright of nobody, what " + what, x.upright(0, what), empty[what]);
        }
        x = fair("stand 0 0;goer 0 3;goer 3 0;goer 0 2;minds 2 2 1;minds 2 1 1;minds 3 18 9;wrong 2 2 1;");
        due("19 UPRIGHT", x.upright(0, 0), 3);
        due("19 WORST", x.upright(0, 1), 2);
        due("19 MOST", x.upright(0, 2), 2);
        due("19 HEARD", x.upright(0, 3), 7);
        due("19 IDLE", x.upright(0, 4), 6);
        due("19 TREE", x.upright(0, 5), 6);
        due("19 NEAREST", x.upright(0, 6), 2);
        due("19 BROAD", x.upright(0, 8), 0);
        due("19 BROAD, how many", x.upright(0, 9), 1);
        due("19 HEARD by few", fair("goer 0 0;goer 5 6;minds 0 1 9;").upright(0, 3), 2);
        due("19 IDLE, one is enough", fair("goer 5 5;minds 0 0 1;minds 0 0 1;wrong 0 0 1;").upright(0, 4), 3);
        x = fair("stand 0 9;goer 0 0;goer 9 9;");
        due("19 TREE of the corners", x.upright(0, 5), 18);
        due("19 NEAREST, as far as can be", x.upright(0, 6), 1);
        due("19 NEAREST, as far as can be", x.upright(0, 7), 18);
        x = fair("goer 0 0;goer 5 6;goer 9 0;goer 4 6;goer 5 7;");
        due("19 NEAREST, of several the least", x.upright(0, 6), 13);
        due("19 BROAD of none", fair("minds 0 0 1;").upright(0, 8), 0);
        due("19 WORST of the good", fair("goer 0 0;goer 0 0;").upright(0, 1), 0);
    }

    private static void shareWalkForget() {
        UprightFair x = fair(FAIR);
        due("20 N", x.share(0, 0, false), 2);
        due("20 D", x.share(0, 0, true), 11);
        due("20 no such goer", x.share(0, 3, false), NONE);
        due("20 no such goer", x.share(0, -1, true), NONE);
        due("20 no such fair", x.share(1, 0, false), NONE);
        due("20 no wrongs", fair("goer 0 0;").share(0, 0, false), NONE);
        due("20 none his", fair("goer 0 0;goer 0 0;wrong 0 0 6;").share(0, 1, true), 1);
        due("21 how far", x.walk(0, 0, false), 3);
        due("21 where", x.walk(0, 0, true), 4);
        due("21 to none", x.walk(0, 1, false), NONE);
        due("21 to none", x.walk(0, 1, true), NONE);
        due("21 he may stay", x.walk(0, 2, false), 0);
        due("21 he may stay", x.walk(0, 2, true), 22);
        due("21 no such goer", x.walk(0, 3, true), NONE);
        due("21 no such fair", x.walk(1, 0, false), NONE);
        due("21 of several the least", fair("goer 5 5;minds 0 0 1;wrong 0 0 1;").walk(0, 0, true), 45);
        due("22 how many", x.forget(0, false), 2);
        due("22 which", x.forget(0, true), 3);
        due("22 no such fair", x.forget(1, true), NONE);
        due("22 nothing", fair("minds 0 0 1;").forget(0, false), 0);
        due("22 one", fair("minds 0 0 1;minds 1 0 1;goer 5 5;wrong 0 1 1;").forget(0, true), 2);
    }

    private static void centreAndRing() {
        UprightFair x = fair(FAIR);
        // CENTRE, how far, SPOT, how many, TWINS, GRACE, DEAF
        int[] want = {23, 6, 2, 2, 0, 2, 13, -2};
        for (int what = 0; what < want.length; what++) {
            due("24 centre what " + what, x.centre(0, what), want[what]);
        }
        due("24 another what", x.centre(0, -1), -2);
        due("24 no such fair", x.centre(1, 0), -2);
        x = fair("");
        for (int what = 0; what < 7; what++) {
            due("24 of nobody, what " + what, x.centre(0, what), 0);
        }
        x = fair("stand 9 9;goer 9 9;goer 9 9;goer 9 9;minds 0 18 1;wrong 0 0 9;wrong 2 0 9;");
        due("24 TWINS", x.centre(0, 4), 1);
        due("24 GRACE 9", x.centre(0, 5), 9);
        due("24 DEAF 19", x.centre(0, 6), 19);
        x = fair(FAIR);
        due("25 ring", x.ring(0, 0), 4);
        due("25 ring", x.ring(0, 1), 5);
        due("25 ring", x.ring(0, 5), 5);
        due("25 ring", x.ring(0, 18), 7);
        due("25 another r", x.ring(0, -1), NONE);
        due("25 another r", x.ring(0, 19), NONE);
        due("25 no such fair", x.ring(1, 0), NONE);
    }

    private static void ladderAndTunes() {
        UprightFair x = fair(FAIR);
        due("26 how many", x.ladder(0, NONE), 2);
        due("26 first", x.ladder(0, 0), 0);
        due("26 second", x.ladder(0, 1), 1);
        due("26 no third", x.ladder(0, 2), NONE);
        due("26 below NONE", x.ladder(0, -2), NONE);
        due("26 no such fair", x.ladder(1, NONE), NONE);
        due("26 nobody", fair("").ladder(0, NONE), 0);
        due("26 no first", fair("").ladder(0, 0), NONE);
        x = fair("goer 0 0;".repeat(5) + "wrong 0 0 2;wrong 1 1 1;wrong 2 0 1;wrong 4 0 3;wrong 4 3 3;");
        int[] row = {3, 2, 0, 4, NONE};
        due("26 four", x.ladder(0, NONE), 4);
        for (int k = 0; k < row.length; k++) {
            due("26 row " + k, x.ladder(0, k), row[k]);
        }
        due("26 twins make no row", fair("goer 0 0;goer 0 0;").ladder(0, NONE), 1);
        due("27 someone offends", fair(FAIR).next(0, 0), NONE);
        due("27 next", fair("").next(0, 0), 1);
        due("27 next", fair("").next(0, 98), 99);
        due("27 none", fair("").next(0, 99), NONE);
        due("27 slant", fair("slant 2;").next(0, 1), 3);
        due("27 slant 1", fair("slant 1;").next(0, 0), NONE);
        due("27 slant 9", fair("slant 9;").next(0, 98), NONE);
        due("27 another n", fair("").next(0, 100), NONE);
        due("27 another n", fair("").next(0, -1), NONE);
        due("27 no such fair", fair("").next(1, 0), NONE);
        due("30 plays", fair("slant 3;").plays(0, 10), 7);
        due("30 plays", fair("").plays(0, 99), 99);
        due("30 plays none", fair("slant 1;").plays(0, 99), 0);
        due("30 plays 0", fair("").plays(0, 0), 0);
        due("30 someone offends", fair(FAIR).plays(0, 9), 0);
        due("30 another n", fair("").plays(0, 100), NONE);
        due("30 another n", fair("").plays(0, -1), NONE);
        due("30 no such fair", fair("").plays(1, 1), NONE);
    }

    private static void purseAndChances() {
        UprightFair x = fair(FAIR);
        due("28 0", x.purse(0, 0, false), 0);
        due("28 0", x.purse(0, 0, true), 0);
        due("28 1", x.purse(0, 1, false), 4);
        due("28 5", x.purse(0, 5, true), 10);
        due("28 11", x.purse(0, 11, true), 12);
        due("28 12", x.purse(0, 12, true), 11);
        due("28 99", x.purse(0, 99, false), 6);
        due("28 99", x.purse(0, 99, true), 11);
        due("28 another p", x.purse(0, 100, true), NONE);
        due("28 another p", x.purse(0, -1, false), NONE);
        due("28 no such fair", x.purse(1, 0, false), NONE);
        due("29 N", x.calm(0, 5, false), 1);
        due("29 D", x.calm(0, 5, true), 4);
        due("29 N", x.calm(0, 3, false), 49);
        due("29 D", x.calm(0, 3, true), 100);
        due("29 sure", x.calm(0, 0, true), 1);
        due("29 never", x.calm(0, 10, false), 0);
        due("29 never", x.calm(0, 10, true), 1);
        due("29 another p", x.calm(0, 11, true), NONE);
        due("29 another p", x.calm(0, -1, true), NONE);
        due("29 no such fair", x.calm(1, 1, true), NONE);
        String eight = "goer 5 5;".repeat(8) + "minds 0 0 1;";
        for (int g = 0; g < 8; g++) {
            eight += "wrong " + g + " 0 1;";
        }
        due("29 eight", fair(eight).calm(0, 9, true), 100000000L);
        due("31 N", x.guess(0, 2, false), 1);
        due("31 D", x.guess(0, 2, true), 3);
        due("31 all", x.guess(0, 3, true), 1);
        due("31 too few", x.guess(0, 1, false), 0);
        due("31 too few", x.guess(0, 0, true), 1);
        due("31 not so many", x.guess(0, 4, false), NONE);
        due("31 another n", x.guess(0, -1, false), NONE);
        due("31 another n", fair(eight).guess(0, 9, false), NONE);
        due("31 eight", fair(eight).guess(0, 8, false), 1);
        due("31 no such fair", x.guess(1, 0, false), NONE);
        due("31 nobody", fair("").guess(0, 0, false), 1);
    }

    private static void images() {
        UprightFair x = fairAndDay(FAIR, DAY);
        Check.tell(x, 2, "lies 3;stopped 1;");
        Check.tell(x, 0, "slant 77;");
        x.feed(0x74756e65, 0x3b202020, 0x20202020, 0x20202020, 0x20202020);
        due("36 image", x.image(1), true);
        due("36 another k", x.image(3), false);
        due("36 another k", x.image(-1), false);
        due("37 none such", x.again(0), false);
        due("37 none such", x.again(3), false);
        due("37 none such", x.again(-1), false);
        due("36 taken anew", x.text(1, 0), 0);
        Check.tape(x, "slant 7;");
        due("36 in its place", x.text(0, 0), 0);
        due("36 a further one", x.text(2, NONE), 1);
        due("36 two", x.image(2), true);
        for (int round = 0; round < 2; round++) {
            due("37 again", x.again(1), true);
            due("37 fair", x.fair(0, 2), 4);
            due("37 wrongs", x.fair(0, 111), 5);
            due("37 day", x.deed(0, NONE, 0), 14);
            due("37 logs", x.count(2), 1);
            due("37 lies", x.log(0, 0), 3);
            due("37 fault", x.fault(0), 2);
            due("37 place", x.fault(1), 6);
            due("37 tape", x.end(20), 20);
            due("37 tape is a text", x.text(1, NONE), 1);
            due("37 of one deed", x.deed(1, NONE, 0), 1);
            due("37 the other", x.again(2), true);
            due("37 other fair", x.fair(0, 2), 7);
            due("37 other day", x.deed(0, NONE, 0), 1);
            due("37 other logs", x.count(2), 2);
            due("37 other fault", x.fault(0), 0);
            due("37 other tape", x.end(1), NONE);
        }
        due("36 image 0", x.image(0), true);
        due("37 image 1 is as it was", x.again(1), true);
        due("37 image 1 is as it was", x.fair(0, 2), 4);
        due("37 image 0", x.again(0), true);
        due("37 image 0", x.fair(0, 2), 7);
        due("36 over itself", x.image(1), true);
        due("37 over itself", x.again(1), true);
        due("37 over itself", x.fair(0, 2), 7);
    }

    public static void main(String[] args) {
        newObject();
        tape();
        texts();
        refusedTexts();
        faultsOfForm();
        faultsOfNumbers();
        faultsOfMany();
        fairAsTold();
        deeds();
        days();
        mendAndQuiet();
        askingAndConfess();
        routeAndRound();
        turns();
        logs();
        logsWithLies();
        drawn();
        upright();
        shareWalkForget();
        centreAndRing();
        ladderAndTunes();
        purseAndChances();
        images();
        check.end("PromiseTests");
    }
}
