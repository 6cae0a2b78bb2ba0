/** What the tests share: counting, feeding a text, telling what was not as due. */
final class Check {
    private int right = 0;
    private int wrong = 0;

    void due(String call, long got, long want) {
        if (got == want) {
            right++;
        } else {
            wrong++;
            System.out.println(call + " answered " + got + ", due is " + want);
        }
    }

    void due(String call, boolean got, boolean want) {
        due(call, got ? 1 : 0, want ? 1 : 0);
    }

    /** Puts a text on an empty tape. */
    static void tape(UprightFair x, String text) {
        int had = x.end(0);
        for (int i = 0; i < text.length(); i += 20) {
            int[] n = new int[5];
            for (int j = 0; j < 20; j++) {
                int b = i + j < text.length() ? text.charAt(i + j) : ' ';
                n[j / 4] = n[j / 4] << 8 | b & 255;
            }
            had = x.feed(n[0], n[1], n[2], n[3], n[4]);
        }
        if (had < 0 || x.end(text.length()) != text.length()) {
            throw new IllegalStateException("tape: " + text);
        }
    }

    static int tell(UprightFair x, int sort, String text) {
        return tellAt(x, sort, UprightFair.NONE, text);
    }

    static int tellAt(UprightFair x, int sort, int at, String text) {
        tape(x, text);
        return x.text(sort, at);
    }

    static UprightFair with(int sort, String text) {
        UprightFair x = new UprightFair();
        if (tell(x, sort, text) != 0) {
            throw new IllegalStateException("no text: " + text);
        }
        return x;
    }

    /** Two of each sort, with as much in them as may be. */
    static UprightFair full() {
        UprightFair x = new UprightFair();
        fill(x);
        return x;
    }

    static void fill(UprightFair x) {
        for (int i = 0; i < 2; i++) {
            for (int sort = 0; sort < 3; sort++) {
                if (tell(x, sort, Full.text(sort)) != i) {
                    throw new IllegalStateException("not filled: " + Full.text(sort));
                }
            }
        }
    }

    /** All that is told, how long the tape is and the FAULT too, if wanted. */
    static String print(UprightFair x, boolean tapeToo) {
        StringBuilder b = new StringBuilder();
        for (int n = 0; n < 2; n++) {
            b.append(x.count(0)).append(x.count(1)).append(x.count(2)).append(':');
            for (int what = 0; what < 260; what++) b.append(x.fair(n, what)).append(' ');
            b.append(x.deed(n, -1, 0)).append(':');
            for (int k = 0; k < 40; k++) for (int what = 0; what < 4; what++) b.append(x.deed(n, k, what)).append(' ');
            for (int what = 0; what < 30; what++) b.append(x.log(n, what)).append(' ');
        }
        if (tapeToo) {
            b.append(x.fault(0)).append(' ').append(x.fault(1)).append(' ');
            // From above, the first end() that is not refused cuts nothing.
            int bytes = 600;
            while (bytes > 0 && x.end(bytes) != bytes) bytes--;
            b.append(bytes);
        }
        return b.toString();
    }

    void end(String name) {
        System.out.println(name + ": " + right + " answers as due, " + wrong + " not");
        if (wrong != 0 || right == 0) {
            System.exit(1);
        }
    }
}
