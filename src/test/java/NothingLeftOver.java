/** What is told in the place of another, or beside it, or again by an image, answers as in a new object. */
public final class NothingLeftOver {
    private static final Check check = new Check();
    private static final String[][] TEXTS = {
        {"", "goer 5 5;", "goer 0 0;goer 9 9;slant 2;", "minds 0 18 1;goer 1 1;wrong 0 0 9;town 9 9 30 10;confess 1 1;", Full.text(0),
            "goer 0 0;goer 0 0;goer 0 0;wrong 0 0 3;wrong 1 0 2;wrong 2 0 1;town 0 0 9 9;town 0 9 9 9;",
            "stand 9 9;goer 9 8;goer 9 7;minds 1 2 1;wrong 1 1 1;confess 63 20;confess 62 0;"},
        {"", "tune;", "ask 0;walk 0 9 9;do 0 0 9;tune;mend 0 0 1;", Full.text(1), "fit;tune;tune;walk 1 0 0;ask 1;do 1 1 9;"},
        {"", "played 0;", "lies 1;stopped 3;played 1;stopped 2;", Full.text(2), "stopped 0;stopped 0;played 63;", "stopped 32;"}};

    private static String ofFair(UprightFair x, int f) {
        StringBuilder b = new StringBuilder();
        for (int n = -1; n < 20; n++) {
            b.append(x.fair(f, n)).append(' ').append(x.mend(f, n)).append(' ').append(x.asking(f, n)).append(' ').append(x.route(f, n));
            b.append(' ').append(x.upright(f, n)).append(' ').append(x.round(f, n)).append(' ').append(x.centre(f, n)).append(' ').append(x.ring(f, n));
            b.append(' ').append(x.ladder(f, n)).append(' ').append(x.next(f, n)).append(' ').append(x.plays(f, n)).append(' ').append(x.drawn(f, n, 60, n));
            b.append(' ').append(ofFair(x, f, n, true)).append(ofFair(x, f, n, false)).append('\n');
        }
        for (int what = 20; what < 260; what++) b.append(x.fair(f, what)).append(' ');
        return b.toString();
    }

    private static String ofFair(UprightFair x, int f, int n, boolean way) {
        return x.quiet(f, way) + " " + x.confess(f, way) + " " + x.byTurns(f, n, way) + " " + x.share(f, n, way) + " " + x.walk(f, n, way) + " "
            + x.forget(f, way) + " " + x.purse(f, n, way) + " " + x.calm(f, n, way) + " " + x.guess(f, n, way) + " ";
    }

    private static String ofDay(UprightFair x, int f, int d) {
        StringBuilder b = new StringBuilder(x.till(f, d) + " ");
        for (int n = -1; n < 42; n++) {
            for (int what = -1; what < 6; what++) b.append(x.deed(d, n, what)).append(' ');
            for (int what = -1; what < 30; what++) b.append(x.state(f, d, n, what)).append(' ');
            for (int what = 100; what < 180; what++) b.append(x.state(f, d, n, what)).append(' ');
            b.append(x.after(f, d, n)).append('\n');
        }
        return b.toString();
    }

    private static String ofLog(UprightFair x, int l) {
        StringBuilder b = new StringBuilder();
        for (int n = -1; n < 80; n++) {
            b.append(x.log(l, n)).append(' ').append(x.fits(l, n)).append(' ').append(x.small(l, n)).append(' ');
            b.append(x.odds(l, n, true)).append(' ').append(x.odds(l, n, false)).append('\n');
        }
        return b.toString();
    }

    private static String answers(UprightFair x, int sort, int n) {
        return sort == 0 ? ofFair(x, n) : sort == 1 ? ofDay(x, 0, n) : ofLog(x, n);
    }

    /** A DAY is asked at a FAIR of its own, the same in each object. */
    private static UprightFair object(int sort) {
        UprightFair x = new UprightFair();
        if (sort == 1) Check.tell(x, 0, Full.text(0));
        return x;
    }

    private static void same(String when, String got, String want) {
        check.due(when, got.equals(want), true);
    }

    public static void main(String[] args) {
        for (int sort = 0; sort < 3; sort++) {
            for (String a : TEXTS[sort]) {
                UprightFair first = object(sort);
                Check.tell(first, sort, a);
                String ofA = answers(first, sort, 0);
                for (String b : TEXTS[sort]) {
                    UprightFair other = object(sort);
                    Check.tell(other, sort, b);
                    String ofB = answers(other, sort, 0);
                    String pair = " '" + a + "', '" + b + "'";
                    UprightFair x = object(sort);
                    Check.tell(x, sort, a);
                    x.image(2);
                    same("asked" + pair, answers(x, sort, 0), ofA);
                    Check.tellAt(x, sort, 0, b);
                    same("in its place" + pair, answers(x, sort, 0), ofB);
                    Check.tell(x, sort, a);
                    same("beside it" + pair, answers(x, sort, 1), ofA);
                    same("by turns" + pair, answers(x, sort, 0), ofB);
                    x.again(2);
                    same("again" + pair, answers(x, sort, 0), ofA);
                    check.due("again alone" + pair, x.count(sort), 1);
                    Check.tell(x, sort, "lies 9 stand tune");
                    Check.tell(x, sort, b);
                    same("behind a FAULT" + pair, answers(x, sort, 1), ofB);
                }
            }
        }
        check.end("NothingLeftOver");
    }
}
