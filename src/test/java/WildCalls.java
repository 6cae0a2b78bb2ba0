import java.util.Random;

/** Any arguments in any state: nothing is thrown, asking changes nothing, nothing is made on the way. */
public final class WildCalls {
    private static final Check check = new Check();
    private static final Random lot = new Random(99);
    private static final int[] EDGES = {Integer.MIN_VALUE, Integer.MAX_VALUE, -2, -1, 0, 1, 2, 3, 4, 5, 9, 10, 18, 19, 39, 40, 60, 61, 63, 64, 99, 100, 600};
    private static final String[][] TEXTS = {
        {"", "goer 1 1;goer 2 9;minds 0 9 1;minds 3 2 2;wrong 1 3 4;wrong 0 0 1;slant 1;confess 63 20;town 1 1 1 1;town 0 9 30 10;", "goer 0 0;".repeat(8) + "minds 5 18 9;".repeat(6)},
        {"", "tune;fit;ask 0;walk 1 3 3;do 1 1 9;mend 1 1 4;tune;", "tune;".repeat(40)},
        {"", "lies 1;stopped 5;played 2;stopped 63;", "stopped 0;".repeat(8)}};

    private static int wild() {
        int r = lot.nextInt(4);
        return r == 0 ? EDGES[lot.nextInt(EDGES.length)] : r == 1 ? lot.nextInt(250) : r == 2 ? lot.nextInt(4) - 1 : lot.nextInt(2);
    }

    private static long ask(UprightFair x, int which) {
        int a = wild();
        int b = wild();
        boolean yes = lot.nextBoolean();
        switch (which) {
            case 0: return x.fault(a);
            case 1: return x.fair(a, b);
            case 2: return x.deed(a, b, wild());
            case 3: return x.till(a, b);
            case 4: return x.state(a, b, wild(), wild());
            case 5: return x.mend(a, b);
            case 6: return x.quiet(a, yes);
            case 7: return x.asking(a, b);
            case 8: return x.confess(a, yes);
            case 9: return x.route(a, b);
            case 10: return x.byTurns(a, b, yes);
            case 11: return x.log(a, b);
            case 12: return x.fits(a, b);
            case 13: return x.drawn(a, b, wild(), wild());
            case 14: return x.upright(a, b);
            case 15: return x.share(a, b, yes);
            case 16: return x.walk(a, b, yes);
            case 17: return x.forget(a, yes);
            case 18: return x.round(a, b);
            case 19: return x.centre(a, b);
            case 20: return x.ring(a, b);
            case 21: return x.ladder(a, b);
            case 22: return x.next(a, b);
            case 23: return x.purse(a, b, yes);
            case 24: return x.calm(a, b, yes);
            case 25: return x.plays(a, b);
            case 26: return x.guess(a, b, yes);
            case 27: return x.after(a, b, wild());
            case 28: return x.odds(a, b, yes);
            case 29: return x.small(a, b);
            default: return x.count(a);
        }
    }

    private static long change(UprightFair x, int which) {
        switch (which) {
            case 0: return x.feed(lot.nextInt(), lot.nextInt(), wild(), wild(), wild());
            case 1: return x.end(wild());
            case 2: return x.text(wild(), wild());
            case 3: return x.image(wild()) ? 1 : 0;
            default: return x.again(wild()) ? 1 : 0;
        }
    }

    private static UprightFair someObject() {
        UprightFair x = new UprightFair();
        for (int sort = 0; sort < 3; sort++) {
            for (int i = lot.nextInt(3); i > 0; i--) {
                Check.tell(x, sort, TEXTS[sort][lot.nextInt(3)]);
            }
        }
        return x;
    }

    /** Nothing is below -2 but byTurns' -9. */
    private static void nothingThrown() {
        for (int i = 0; i < 3000; i++) {
            UprightFair x = someObject();
            long least = 0;
            for (int call = 0; call < 500; call++) {
                int which = lot.nextInt(31);
                long got = lot.nextInt(5) == 0 ? change(x, lot.nextInt(5)) : ask(x, which);
                // A ROUTE, its row and all else are 0 or more where they are there.
                least = Math.min(least, got);
            }
            check.due("the least answer is no lower than -9", least >= -9, true);
        }
    }

    private static long answers(UprightFair x, long seed) {
        lot.setSeed(seed);
        long sum = 0;
        for (int which = 0; which < 31; which++) {
            for (int i = 0; i < 4; i++) {
                sum = sum * 31 + ask(x, which);
            }
        }
        return sum;
    }

    private static void askingChangesNothing() {
        for (int i = 0; i < 500; i++) {
            lot.setSeed(i);
            UprightFair x = someObject();
            if (i % 2 == 0) {
                Check.tellAt(x, 0, 0, "slant 10;");
                Check.tape(x, "slant 3;");
            }
            String before = Check.print(x, true);
            long once = answers(x, 1000 + i);
            answers(x, 2000 + i);
            check.due("the same calls answer the same", answers(x, 1000 + i), once);
            check.due("all that is told is as it was", Check.print(x, true).equals(before), true);
        }
    }

    private static long allocated() {
        return ((com.sun.management.ThreadMXBean) java.lang.management.ManagementFactory.getThreadMXBean()).getThreadAllocatedBytes(Thread.currentThread().getId());
    }

    /** The room that all calls share: only the constructor makes objects. */
    private static void room() {
        lot.setSeed(5);
        UprightFair x = someObject();
        answers(x, 7);
        long before = allocated();
        for (int i = 0; i < 200; i++) {
            answers(x, i);
            for (int call = 0; call < 100; call++) {
                change(x, call % 5);
            }
        }
        check.due("calls make nothing", allocated() - before < 20000, true);
        before = allocated();
        for (int i = 0; i < 100; i++) {
            new UprightFair();
        }
        check.due("a new object is small", (allocated() - before) / 100 < 32000, true);
    }

    public static void main(String[] args) {
        nothingThrown();
        askingChangesNothing();
        room();
        check.end("WildCalls");
    }
}
