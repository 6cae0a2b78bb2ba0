/** What the tests share: counting, feeding a text, telling what was not as due. */
final class Check {
    private int right = 0;
    private int wrong = 0;

    void due(String call, long got, long want) {
        if (got == want) {
            right++;
        } else {
            wrong++;
            System.out.println(call + " answered " + got + ", due is " + want);
        }
    }

    void due(String call, boolean got, boolean want) {
        due(call, got ? 1 : 0, want ? 1 : 0);
    }

    /** Puts a text on an empty tape. */
    static void tape(UprightFair x, String text) {
        int had = x.end(0);
        for (int i = 0; i < text.length(); i += 20) {
            int[] n = new int[5];
            for (int j = 0; j < 20; j++) {
                int b = i + j < text.length() ? text.charAt(i + j) : ' ';
                n[j / 4] = n[j / 4] << 8 | b & 255;
            }
            had = x.feed(n[0], n[1], n[2], n[3], n[4]);
        }
        if (had < 0 || x.end(text.length()) != text.length()) {
            throw new IllegalStateException("tape: " + text);
        }
    }

    static int tell(UprightFair x, int sort, String text) {
        tape(x, text);
        return x.text(sort, UprightFair.NONE);
    }

    static UprightFair with(int sort, String text) {
        UprightFair x = new UprightFair();
        if (tell(x, sort, text) != 0) {
            throw new IllegalStateException("no text: " + text);
        }
        return x;
    }

    void end(String name) {
        System.out.println(name + ": " + right + " answers as due, " + wrong + " not");
        if (wrong != 0 || right == 0) {
            System.exit(1);
        }
    }
}
