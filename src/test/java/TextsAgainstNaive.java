import java.util.ArrayList;
import java.util.List;
import java.util.Random;
import java.util.regex.Matcher;
import java.util.regex.Pattern;

/** Texts by lot, right ones and spoilt ones: the FAULT and its place held against a parser of patterns. */
public final class TextsAgainstNaive {
    private static final Check check = new Check();
    private static final Random lot = new Random(4711);
    private static final String[][] WORDS = {
        {"stand", "goer", "slant", "minds", "wrong", "confess", "town"},
        {"tune", "fit", "ask", "walk", "mend", "do"},
        {"lies", "stopped", "played"}};
    /** What each number can be, from and to. */
    private static final int[][][] CAN = {
        {{0, 9, 0, 9}, {0, 9, 0, 9}, {0, 9}, {0, 5, 0, 18, 1, 9}, {0, 7, 0, 5, 0, 9}, {1, 63, 0, 20}, {0, 9, 0, 9, 0, 30, 0, 10}},
        {{}, {}, {0, 7}, {0, 7, 0, 9, 0, 9}, {0, 7, 0, 5, 1, 9}, {0, 7, 0, 5, 1, 9}},
        {{0, 8}, {0, 63}, {0, 63}}};
    private static final int[][] MOST = {{999, 8, 999, 6, 999, 6, 6}, {}, {}};

    private static int wordAt(int sort, String w) {
        for (int i = 0; i < WORDS[sort].length; i++) if (WORDS[sort][i].equals(w)) return i;
        return -1;
    }

    /** The grammar over one letter a token: A .. a word, 0 a number, ; itself. */
    private static Pattern grammar(int sort) {
        StringBuilder b = new StringBuilder("((");
        for (int i = 0; i < WORDS[sort].length; i++) {
            b.append(i == 0 ? "" : "|").append((char) ('A' + i)).append("0".repeat(CAN[sort][i].length / 2));
        }
        return Pattern.compile(b.append(");)*").toString());
    }

    private static int[] faultOf(int sort, String text) {
        Pattern grammar = grammar(sort);
        Matcher m = Pattern.compile("[a-z]+|[0-9]+|;|[^ \\n]", Pattern.DOTALL).matcher(text);
        StringBuilder shape = new StringBuilder();
        List<String> tokens = new ArrayList<>();
        List<Integer> places = new ArrayList<>();
        while (m.find()) {
            String t = m.group();
            int word = wordAt(sort, t);
            shape.append(word >= 0 ? (char) ('A' + word) : t.matches("[0-9]{1,2}") ? '0' : t.equals(";") ? ';' : '?');
            Matcher g = grammar.matcher(shape);
            if (!g.matches() && !g.hitEnd()) return new int[] {1, m.start()};
            tokens.add(t);
            places.add(m.start());
        }
        if (!grammar.matcher(shape).matches()) return new int[] {1, text.length()};
        return faultOfLines(sort, tokens, places, text.length());
    }

    private static int[] faultOfLines(int sort, List<String> tokens, List<Integer> places, int end) {
        int[] had = new int[8];
        int toldOf = -1;
        int line = -1;
        int nth = 0;
        for (int i = 0; i < tokens.size(); i++) {
            String t = tokens.get(i);
            if (wordAt(sort, t) >= 0) {
                line = wordAt(sort, t);
                nth = 0;
                int counted = sort == 0 ? line : sort == 1 ? 0 : line == 0 ? 1 : 0;
                int most = sort == 0 ? MOST[0][line] : sort == 1 ? 40 : line == 0 ? 999 : 8;
                if (++had[counted] > most) return new int[] {3, places.get(i)};
            } else if (!t.equals(";")) {
                int n = Integer.parseInt(t);
                if (n < CAN[sort][line][nth] || n > CAN[sort][line][nth + 1]) return new int[] {2, places.get(i)};
                if (sort == 0 && line == 4 && nth == 0) toldOf = Math.max(toldOf, n);
                nth += 2;
            }
        }
        return sort == 0 && toldOf >= had[1] ? new int[] {4, end} : new int[] {0, -1};
    }

    private static String someText(int sort) {
        StringBuilder b = new StringBuilder();
        int lines = lot.nextInt(lot.nextInt(12) == 0 ? 48 : 14);
        boolean strict = lot.nextInt(3) > 0;
        int only = lot.nextInt(4) == 0 ? lot.nextInt(WORDS[sort].length) : -1;
        for (int i = 0; i < lines; i++) {
            int line = only >= 0 && lot.nextInt(6) > 0 ? only : lot.nextInt(WORDS[sort].length);
            b.append(WORDS[sort][line]);
            int[] can = CAN[sort][line];
            for (int k = 0; k < can.length; k += 2) {
                boolean right = strict || lot.nextInt(20) > 0;
                int n = right ? can[k] + lot.nextInt(can[k + 1] - can[k] + 1) : lot.nextInt(100);
                if (right && sort == 0 && line == 4 && k == 0) n = lot.nextInt(3);
                b.append(k == 0 && lot.nextInt(9) == 0 ? "" : lot.nextInt(9) == 0 ? "\n " : " ").append(n < 10 && lot.nextInt(9) == 0 ? "0" : "").append(n);
            }
            b.append(lot.nextInt(9) == 0 ? " ;\n" : ";");
        }
        return b.length() > 600 ? b.substring(0, 600) : b.toString();
    }

    private static String spoilt(String text) {
        StringBuilder b = new StringBuilder(text);
        String odd = "abtu;; 0123459\n\t,A-\0\u00ff\u0080";
        for (int i = lot.nextInt(3); i > 0 && b.length() > 0; i--) {
            int at = lot.nextInt(b.length());
            int how = lot.nextInt(4);
            if (how == 0) b.deleteCharAt(at);
            else if (how == 1) b.setCharAt(at, odd.charAt(lot.nextInt(odd.length())));
            else if (how == 2 && b.length() < 600) b.insert(at, odd.charAt(lot.nextInt(odd.length())));
            else if (lot.nextInt(3) == 0) b.setLength(at);
        }
        return b.toString();
    }

    public static void main(String[] args) {
        int[] seen = new int[5];
        for (int i = 0; i < 60000; i++) {
            int sort = lot.nextInt(3);
            String text = someText(sort);
            if (lot.nextInt(2) == 0) text = spoilt(text);
            int[] want = faultOf(sort, text);
            seen[want[0]]++;
            UprightFair x = new UprightFair();
            check.due(sort + " '" + text + "' text", Check.tell(x, sort, text), want[0] == 0 ? 0 : -1);
            check.due(sort + " '" + text + "' fault", x.fault(0), want[0]);
            check.due(sort + " '" + text + "' place", x.fault(1), want[1]);
        }
        for (int f = 0; f < 5; f++) check.due("texts of fault " + f, seen[f] > 500, true);
        check.end("TextsAgainstNaive");
    }
}
