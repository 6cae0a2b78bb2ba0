/** A FAIR, a DAY and a LOG with as many of all as may be, and what they tell. */
final class Full {
    static final int[][] MINDS = {{0, 0, 1}, {1, 18, 9}, {2, 1, 2}, {3, 2, 3}, {4, 3, 4}, {5, 9, 5}};
    static final int[][] GOERS = {{0, 0}, {9, 9}, {0, 9}, {9, 0}, {5, 5}, {4, 5}, {1, 8}, {7, 2}};
    static final int[][] CONFESSIONS = {{1, 0}, {63, 20}, {2, 1}, {4, 2}, {8, 3}, {16, 19}};
    static final int[][] TOWNS = {{0, 0, 0, 0}, {9, 9, 30, 10}, {1, 2, 3, 4}, {5, 6, 7, 8}, {9, 0, 29, 9}, {0, 9, 1, 1}};
    /** A GOER, a KIND, how many; of all others 0. */
    static final int[][] WRONGS = {
        {0, 0, 1}, {0, 5, 9}, {1, 1, 9}, {2, 2, 2}, {3, 3, 3}, {4, 4, 4}, {5, 5, 5}, {6, 0, 6}, {7, 0, 7}, {7, 5, 9}};
    static final String[] DEED_NAMES = {"tune", "fit", "ask", "walk", "mend", "do"};
    static final int[][] SOME_DEEDS = {{0}, {1}, {2, 7}, {3, 0, 9, 9}, {3, 7, 0, 0}, {4, 7, 5, 9}, {5, 6, 5, 1}, {0}};
    static final int LIES = 8;
    static final int[][] FACTS = {{1, 0}, {0, 63}, {1, 63}, {0, 0}, {1, 1}, {0, 32}, {1, 21}, {0, 42}};

    private Full() {
    }

    static int[] deed(int k) {
        return SOME_DEEDS[k % SOME_DEEDS.length];
    }

    static int wrongs(int goer, int kind) {
        for (int[] w : WRONGS) {
            if (w[0] == goer && w[1] == kind) {
                return w[2];
            }
        }
        return 0;
    }

    private static void lines(StringBuilder b, String word, int[][] rows) {
        for (int[] row : rows) {
            b.append(word);
            for (int n : row) {
                b.append(' ').append(n);
            }
            b.append(';');
        }
    }

    static String text(int sort) {
        StringBuilder b = new StringBuilder();
        if (sort == 0) {
            b.append("stand 0 9;slant 9;");
            lines(b, "minds", MINDS);
            lines(b, "goer", GOERS);
            lines(b, "wrong", WRONGS);
            lines(b, "confess", CONFESSIONS);
            lines(b, "town", TOWNS);
        } else if (sort == 1) {
            for (int k = 0; k < 40; k++) {
                b.append(DEED_NAMES[deed(k)[0]]);
                for (int i = 1; i < deed(k).length; i++) {
                    b.append(' ').append(deed(k)[i]);
                }
                b.append(';');
            }
        } else {
            b.append("lies ").append(LIES).append(';');
            for (int[] fact : FACTS) {
                b.append(fact[0] == 1 ? "stopped " : "played ").append(fact[1]).append(';');
            }
        }
        return b.toString();
    }
}
