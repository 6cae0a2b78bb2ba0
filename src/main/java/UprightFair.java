import java.util.Arrays;

/** A steam organ with a conscience, its fairs, days and logs; the document is ../shared/DOC.md. */
public final class UprightFair {
    public static final int NONE = -1;

    private static final int MISSING = -2;
    private static final int NO_SUCH_TURNS = -9;

    private static final int SORTS = 3;
    private static final int OF_A_SORT = 2;
    private static final int IMAGES = 3;
    private static final int TAPE = 600;
    private static final int FED = 20;

    private static final int SIDE = 10;
    private static final int PLACES = 100;
    private static final int KINDS = 6;
    private static final int MOST_WRONGS = 9;
    private static final int MINDS = 6;
    private static final int GOERS = 8;
    private static final int CONFESSIONS = 6;
    private static final int TOWNS = 6;
    private static final int DEEDS = 40;
    private static final int FACTS = 8;
    private static final int HEARTS = 64;
    private static final int TUNES = 99;

    private static final int MOST_DRAWN = 60;
    private static final int MOST_TURNS = 4;
    private static final int MOST_FAR = 18;

    private final Told told;
    private final Told[] images;
    private final boolean[] taken;
    private final Reader reader;
    private final Stage stage;
    private final Ways ways;
    private final Folk folk;
    private final Conscience conscience;

    public UprightFair() {
        told = new Told();
        images = new Told[IMAGES];
        for (int k = 0; k < IMAGES; k++) {
            images[k] = new Told();
        }
        taken = new boolean[IMAGES];
        reader = new Reader();
        stage = new Stage();
        ways = new Ways();
        folk = new Folk();
        conscience = new Conscience();
    }

    public int feed(int a, int b, int c, int d, int e) {
        if (told.length + FED > TAPE) {
            return NONE;
        }
        told.put(a);
        told.put(b);
        told.put(c);
        told.put(d);
        told.put(e);
        return told.length;
    }

    public int end(int n) {
        if (n < 0 || n > told.length) {
            return NONE;
        }
        told.length = n;
        return n;
    }

    public int text(int sort, int at) {
        int number = told.numberFor(sort, at);
        reader.takeTape(told);
        if (number < 0) {
            told.fault = 0;
            told.place = NONE;
            return MISSING;
        }
        reader.read(sort);
        told.fault = reader.fault;
        told.place = reader.place;
        if (reader.fault != 0) {
            return NONE;
        }
        told.take(sort, number, reader);
        return number;
    }

    public int fault(int what) {
        if (what == 0) {
            return told.fault;
        }
        return what == 1 ? told.place : NONE;
    }

    public int fair(int fair, int what) {
        Fair f = fairOf(fair);
        return f == null ? NONE : f.tell(what);
    }

    public int deed(int day, int k, int what) {
        Day d = dayOf(day);
        return d == null ? MISSING : d.tell(k, what);
    }

    public int till(int fair, int day) {
        Fair f = fairOf(fair);
        Day d = dayOf(day);
        return f == null || d == null ? NONE : stage.run(f, d, d.size);
    }

    public int state(int fair, int day, int n, int what) {
        Fair f = fairOf(fair);
        Day d = dayOf(day);
        if (f == null || d == null || n < 0 || n > d.size) {
            return MISSING;
        }
        return stage.run(f, d, n) < n ? MISSING : stage.tell(what);
    }

    public int mend(int fair, int goer) {
        Fair f = fairOf(fair);
        return f == null || !f.hasGoer(goer) ? NONE : Folk.toMend(f, goer);
    }

    public int quiet(int fair, boolean where) {
        Fair f = fairOf(fair);
        if (f == null) {
            return MISSING;
        }
        return where ? conscience.nearestQuiet(f) : conscience.quietPlaces(f);
    }

    public int asking(int fair, int what) {
        Fair f = fairOf(fair);
        if (f == null || f.goers == 0) {
            return NONE;
        }
        if (what == 2) {
            return Folk.questionsForSure(f.goers);
        }
        return what == 0 || what == 1 ? folk.meanQuestions(f, what == 1) : NONE;
    }

    public int confess(int fair, boolean which) {
        Fair f = fairOf(fair);
        if (f == null) {
            return NONE;
        }
        int set = Pardons.cheapest(f);
        return set < 0 || which ? set : Pardons.priceOf(f, set);
    }

    public int route(int fair, int what) {
        Fair f = fairOf(fair);
        if (f == null) {
            return MISSING;
        }
        ways.lay(f, false);
        if (what == 0) {
            return ways.worth;
        }
        return what == 1 ? ways.size : ways.townAt(what < SIDE ? NONE : what - SIDE, MISSING);
    }

    public int byTurns(int fair, int n, boolean first) {
        Fair f = fairOf(fair);
        if (f == null || n < 0 || n > MOST_TURNS) {
            return NO_SUCH_TURNS;
        }
        return first ? Conscience.firstTurn(f, n) : Conscience.inTheEnd(f, n);
    }

    public int log(int log, int what) {
        Ledger l = ledgerOf(log);
        return l == null ? NONE : l.tell(what);
    }

    public int fits(int log, int what) {
        Ledger l = ledgerOf(log);
        if (l == null || what < 0) {
            return MISSING;
        }
        long fit = l.fitting();
        if (what == 0) {
            return Long.bitCount(fit);
        }
        if (what == 1) {
            return Ledger.bestQuestion(fit);
        }
        if (what < 2 + KINDS) {
            return Ledger.sure(fit, what - 2);
        }
        return what < SIDE ? MISSING : Ledger.heartAt(fit, what - SIDE);
    }

    public int drawn(int fair, int seed, int n, int what) {
        Fair f = fairOf(fair);
        if (f == null || n < 0 || n > MOST_DRAWN) {
            return MISSING;
        }
        stage.runByLot(f, seed, n);
        return stage.tell(what);
    }

    public int upright(int fair, int what) {
        Fair f = fairOf(fair);
        if (f == null) {
            return MISSING;
        }
        switch (what) {
            case 0: return Folk.withoutWrongs(f);
            case 1: return Folk.worst(f);
            case 2: return Folk.mostKind(f);
            case 3: return f.heard();
            case 4: return f.idleMinds();
            case 5: return folk.tree(f);
            case 6: return Folk.nearestTwo(f);
            case 7: return Folk.betweenNearest(f);
            case 8: return f.broadest();
            case 9: return f.minds == 0 ? 0 : f.offendersBy(f.broadest());
            default: return MISSING;
        }
    }

    public int share(int fair, int goer, boolean under) {
        Fair f = fairOf(fair);
        if (f == null || !f.hasGoer(goer) || f.allWrongs() == 0) {
            return NONE;
        }
        return (int) Sums.part(f.wrongsTogether(goer), f.allWrongs(), under);
    }

    public int walk(int fair, int goer, boolean where) {
        Fair f = fairOf(fair);
        if (f == null || !f.hasGoer(goer)) {
            return NONE;
        }
        int place = Conscience.refuge(f, goer);
        return place < 0 || where ? place : f.farFromGoer(goer, place / SIDE, place % SIDE);
    }

    public int forget(int fair, boolean which) {
        Fair f = fairOf(fair);
        if (f == null) {
            return NONE;
        }
        int set = f.offendedMinds();
        return which ? set : Integer.bitCount(set);
    }

    public int round(int fair, int k) {
        Fair f = fairOf(fair);
        if (f == null) {
            return NONE;
        }
        ways.lay(f, true);
        return k == NONE ? -ways.worth : ways.townAt(k, NONE);
    }

    public int centre(int fair, int what) {
        Fair f = fairOf(fair);
        if (f == null) {
            return MISSING;
        }
        switch (what) {
            case 0: return Folk.middle(f);
            case 1: return Folk.farToAll(f, Folk.middle(f));
            case 2: return conscience.worstPlace(f);
            case 3: return conscience.offendersAt(f, conscience.worstPlace(f));
            case 4: return Folk.twins(f);
            case 5: return Conscience.grace(f);
            case 6: return Conscience.deafness(f);
            default: return MISSING;
        }
    }

    public int ring(int fair, int r) {
        Fair f = fairOf(fair);
        return f == null || r < 0 || r > MOST_FAR ? NONE : f.within(r);
    }

    public int ladder(int fair, int k) {
        Fair f = fairOf(fair);
        if (f == null) {
            return NONE;
        }
        folk.climb(f);
        return k == NONE ? folk.rungs : folk.rungAt(k);
    }

    public int next(int fair, int n) {
        Fair f = fairOf(fair);
        return f == null || n < 0 || n > TUNES ? NONE : f.playingAfter(n);
    }

    public int purse(int fair, int p, boolean which) {
        Fair f = fairOf(fair);
        if (f == null || p < 0 || p > 99) {
            return NONE;
        }
        int set = Pardons.broadest(f, p);
        return which ? set : Integer.bitCount(Pardons.kindsOf(f, set));
    }

    public long calm(int fair, int p, boolean under) {
        Fair f = fairOf(fair);
        if (f == null || p < 0 || p > 10) {
            return NONE;
        }
        int offending = Integer.bitCount(f.offenders(0));
        return Sums.part(Sums.power(10 - p, offending), Sums.power(10, offending), under);
    }

    public int plays(int fair, int n) {
        Fair f = fairOf(fair);
        return f == null || n < 0 || n > TUNES ? NONE : f.playingUpTo(n);
    }

    public long guess(int fair, int n, boolean under) {
        Fair f = fairOf(fair);
        if (f == null || n < 0 || n > f.goers) {
            return NONE;
        }
        int offending = Integer.bitCount(f.offenders(0));
        long lucky = Sums.choose(f.goers - offending, n - offending);
        return Sums.part(lucky, Sums.choose(f.goers, n), under);
    }

    public int after(int fair, int day, int what) {
        Fair f = fairOf(fair);
        Day d = dayOf(day);
        if (f == null || d == null) {
            return MISSING;
        }
        stage.run(f, d, d.size);
        return stage.sumUp(what);
    }

    public int odds(int log, int kinds, boolean under) {
        Ledger l = ledgerOf(log);
        if (l == null || kinds < 0 || kinds >= HEARTS) {
            return NONE;
        }
        long fit = l.fitting();
        return fit == 0 ? NONE : (int) Sums.part(Ledger.stopping(fit, kinds), Long.bitCount(fit), under);
    }

    public int small(int log, int what) {
        Ledger l = ledgerOf(log);
        if (l == null) {
            return MISSING;
        }
        switch (what) {
            case 0: return Ledger.smallest(l.fitting());
            case 1: return Ledger.largest(l.fitting());
            case 2: return l.fewestLies();
            case 3: return l.needless();
            default: return MISSING;
        }
    }

    public int count(int sort) {
        return sort < 0 || sort >= SORTS ? MISSING : told.sizes[sort];
    }

    public boolean image(int k) {
        if (k < 0 || k >= IMAGES) {
            return false;
        }
        images[k].copyFrom(told);
        taken[k] = true;
        return true;
    }

    public boolean again(int k) {
        if (k < 0 || k >= IMAGES || !taken[k]) {
            return false;
        }
        told.copyFrom(images[k]);
        return true;
    }

    private Fair fairOf(int n) {
        return told.has(0, n) ? told.fairs[n] : null;
    }

    private Day dayOf(int n) {
        return told.has(1, n) ? told.days[n] : null;
    }

    private Ledger ledgerOf(int n) {
        return told.has(2, n) ? told.ledgers[n] : null;
    }

    /** Numbers: ways on the ground, fractions, rows read with care. */
    private static final class Sums {
        private Sums() {
        }

        /** What a row has at i; 0 beyond it, so that no index can fail. */
        static int at(int[] row, int i) {
            return i >= 0 && i < row.length ? row[i] : 0;
        }

        static void set(int[] row, int i, int value) {
            if (i >= 0 && i < row.length) {
                row[i] = value;
            }
        }

        static int far(int x, int y, int otherX, int otherY) {
            return Math.abs(x - otherX) + Math.abs(y - otherY);
        }

        static long divisor(long a, long b) {
            long x = a;
            long y = b;
            for (int i = 0; i < 100 && y != 0; i++) {
                long rest = x % y;
                x = y;
                y = rest;
            }
            return x;
        }

        /** N or (under) D of n / d in least terms. */
        static long part(long n, long d, boolean under) {
            long by = divisor(n, d);
            if (by == 0) {
                return NONE;
            }
            return under ? d / by : n / by;
        }

        static long power(int base, int times) {
            long power = 1;
            for (int i = 0; i < times; i++) {
                power *= base;
            }
            return power;
        }

        static long choose(int n, int k) {
            if (k < 0 || k > n) {
                return 0;
            }
            long ways = 1;
            for (int i = 1; i <= k; i++) {
                ways = ways * (n - k + i) / i;
            }
            return ways;
        }
    }

    /** A FAIR as told; a day changes a copy of it. */
    private static final class Fair {
        int standX;
        int standY;
        int slant;
        int minds;
        int goers;
        int confessions;
        int towns;
        final int[] mind = new int[3 * MINDS];
        final int[] place = new int[2 * GOERS];
        final int[] wrongs = new int[KINDS * GOERS];
        final int[] confession = new int[2 * CONFESSIONS];
        final int[] town = new int[4 * TOWNS];

        void clear() {
            standX = 5;
            standY = 5;
            slant = 0;
            minds = 0;
            goers = 0;
            confessions = 0;
            towns = 0;
            Arrays.fill(wrongs, 0);
        }

        void copyFrom(Fair other) {
            standX = other.standX;
            standY = other.standY;
            slant = other.slant;
            minds = other.minds;
            goers = other.goers;
            confessions = other.confessions;
            towns = other.towns;
            System.arraycopy(other.mind, 0, mind, 0, mind.length);
            System.arraycopy(other.place, 0, place, 0, place.length);
            System.arraycopy(other.wrongs, 0, wrongs, 0, wrongs.length);
            System.arraycopy(other.confession, 0, confession, 0, confession.length);
            System.arraycopy(other.town, 0, town, 0, town.length);
        }

        int tell(int what) {
            if (what < 0) {
                return NONE;
            }
            int tens = what / 10;
            int k = what % 10;
            if (tens == 0) {
                return tellWhole(k);
            }
            if (tens < 10) {
                return tellSingle(tens, k);
            }
            if (tens < 20) {
                return hasGoer(tens - 10) && k < KINDS ? wrongsOf(tens - 10, k) : NONE;
            }
            return tens - 20 < towns && k < 4 ? Sums.at(town, 4 * (tens - 20) + k) : NONE;
        }

        private int tellWhole(int what) {
            switch (what) {
                case 0: return standX;
                case 1: return standY;
                case 2: return slant;
                case 3: return minds;
                case 4: return goers;
                case 5: return confessions;
                case 6: return towns;
                default: return NONE;
            }
        }

        private int tellSingle(int tens, int k) {
            if (tens <= 3) {
                return k < minds ? Sums.at(mind, 3 * k + tens - 1) : NONE;
            }
            if (tens <= 5) {
                return k < goers ? Sums.at(place, 2 * k + tens - 4) : NONE;
            }
            return tens <= 7 && k < confessions ? Sums.at(confession, 2 * k + tens - 6) : NONE;
        }

        boolean hasGoer(int g) {
            return g >= 0 && g < goers;
        }

        int kindOf(int m) {
            return Sums.at(mind, 3 * m);
        }

        int reachOf(int m) {
            return Sums.at(mind, 3 * m + 1);
        }

        int leastOf(int m) {
            return Sums.at(mind, 3 * m + 2);
        }

        int xOf(int g) {
            return Sums.at(place, 2 * g);
        }

        int yOf(int g) {
            return Sums.at(place, 2 * g + 1);
        }

        int wrongsOf(int g, int k) {
            return Sums.at(wrongs, KINDS * g + k);
        }

        void setWrongs(int g, int k, int n) {
            Sums.set(wrongs, KINDS * g + k, n);
        }

        void setPlace(int g, int x, int y) {
            Sums.set(place, 2 * g, x);
            Sums.set(place, 2 * g + 1, y);
        }

        int wrongsTogether(int g) {
            int sum = 0;
            for (int k = 0; k < KINDS; k++) {
                sum += wrongsOf(g, k);
            }
            return sum;
        }

        int wrongsOfKind(int k) {
            int sum = 0;
            for (int g = 0; g < goers; g++) {
                sum += wrongsOf(g, k);
            }
            return sum;
        }

        int allWrongs() {
            int sum = 0;
            for (int g = 0; g < goers; g++) {
                sum += wrongsTogether(g);
            }
            return sum;
        }

        int farFromStand(int x, int y) {
            return Sums.far(standX, standY, x, y);
        }

        int farFromGoer(int g, int x, int y) {
            return Sums.far(xOf(g), yOf(g), x, y);
        }

        /** How far the STAND is from a GOER. */
        int farOf(int g) {
            return Sums.far(standX, standY, xOf(g), yOf(g));
        }

        /**
         * How near a GOER offends: the greatest REACH of the MINDS (but those struck)
         * whose LEAST, and some more, his WRONGS come up to; NONE if he never does.
         */
        int earshot(int g, int more, int struck) {
            int ear = NONE;
            for (int m = 0; m < minds; m++) {
                boolean counts = (struck >> m & 1) == 0;
                if (counts && wrongsOf(g, kindOf(m)) >= leastOf(m) + more) {
                    ear = Math.max(ear, reachOf(m));
                }
            }
            return ear;
        }

        boolean isOffending(int g) {
            return farOf(g) <= earshot(g, 0, 0);
        }

        /** GOERS (bits) that offend, the MINDS struck (bits) being none. */
        int offenders(int struck) {
            int set = 0;
            for (int g = 0; g < goers; g++) {
                if (farOf(g) <= earshot(g, 0, struck)) {
                    set |= 1 << g;
                }
            }
            return set;
        }

        /** How many offend by one MINDS alone. */
        int offendersBy(int m) {
            return Integer.bitCount(offenders(~(1 << m)));
        }

        /** MINDS (bits) by which anybody offends: each is to be forgotten, and no other. */
        int offendedMinds() {
            int set = 0;
            for (int m = 0; m < minds; m++) {
                if (offendersBy(m) > 0) {
                    set |= 1 << m;
                }
            }
            return set;
        }

        int idleMinds() {
            int all = offenders(0);
            int set = 0;
            for (int m = 0; m < minds; m++) {
                if (offenders(1 << m) == all) {
                    set |= 1 << m;
                }
            }
            return set;
        }

        int broadest() {
            int best = NONE;
            int most = NONE;
            for (int m = 0; m < minds; m++) {
                int by = offendersBy(m);
                if (by > most) {
                    most = by;
                    best = m;
                }
            }
            return best;
        }

        int within(int r) {
            int set = 0;
            for (int g = 0; g < goers; g++) {
                if (farOf(g) <= r) {
                    set |= 1 << g;
                }
            }
            return set;
        }

        int heard() {
            int reach = NONE;
            for (int m = 0; m < minds; m++) {
                reach = Math.max(reach, reachOf(m));
            }
            return within(reach);
        }

        boolean slantStops(int tune) {
            return slant != 0 && tune % slant == 0;
        }

        int playingAfter(int n) {
            if (offenders(0) != 0) {
                return NONE;
            }
            for (int tune = n + 1; tune <= TUNES; tune++) {
                if (!slantStops(tune)) {
                    return tune;
                }
            }
            return NONE;
        }

        int playingUpTo(int n) {
            if (offenders(0) != 0) {
                return 0;
            }
            return slant == 0 ? n : n - n / slant;
        }
    }

    /** A DAY: its DEEDS, four numbers each, the sort first (NONE where a DEED has no number). */
    private static final class Day {
        int size;
        final int[] deeds = new int[4 * DEEDS];

        void copyFrom(Day other) {
            size = other.size;
            System.arraycopy(other.deeds, 0, deeds, 0, deeds.length);
        }

        int part(int k, int what) {
            return Sums.at(deeds, 4 * k + what);
        }

        void add(int sort, int[] numbers, int given) {
            if (size >= DEEDS) {
                return;
            }
            Sums.set(deeds, 4 * size, sort);
            for (int i = 0; i < 3; i++) {
                Sums.set(deeds, 4 * size + 1 + i, i < given ? Sums.at(numbers, i) : NONE);
            }
            size++;
        }

        int tell(int k, int what) {
            if (k == NONE) {
                return what == 0 ? size : MISSING;
            }
            return k < 0 || k >= size || what < 0 || what > 3 ? MISSING : part(k, what);
        }
    }

    /** A LOG, and what its FACTS tell of the HEART. Sets of HEARTS are bits of a long. */
    private static final class Ledger {
        int lies;
        int size;
        final int[] stopped = new int[FACTS];
        final int[] about = new int[FACTS];

        void clear() {
            lies = 0;
            size = 0;
        }

        void copyFrom(Ledger other) {
            lies = other.lies;
            size = other.size;
            System.arraycopy(other.stopped, 0, stopped, 0, stopped.length);
            System.arraycopy(other.about, 0, about, 0, about.length);
        }

        void add(int itStopped, int kinds) {
            if (size < FACTS) {
                Sums.set(stopped, size, itStopped);
                Sums.set(about, size, kinds);
                size++;
            }
        }

        int tell(int what) {
            if (what == 0) {
                return lies;
            }
            if (what == 1) {
                return size;
            }
            if (what >= 10 && what < 20) {
                return what - 10 < size ? Sums.at(stopped, what - 10) : NONE;
            }
            return what >= 20 && what - 20 < size ? Sums.at(about, what - 20) : NONE;
        }

        private boolean isLie(int fact, int heart) {
            int stops = (heart & Sums.at(about, fact)) != 0 ? 1 : 0;
            return stops != Sums.at(stopped, fact);
        }

        private int liesBy(int heart) {
            int sum = 0;
            for (int f = 0; f < size; f++) {
                if (isLie(f, heart)) {
                    sum++;
                }
            }
            return sum;
        }

        long fitting() {
            long fit = 0;
            for (int heart = 0; heart < HEARTS; heart++) {
                if (liesBy(heart) <= lies) {
                    fit |= 1L << heart;
                }
            }
            return fit;
        }

        int fewestLies() {
            int fewest = FACTS;
            for (int heart = 0; heart < HEARTS; heart++) {
                fewest = Math.min(fewest, liesBy(heart));
            }
            return fewest;
        }

        int needless() {
            int set = (1 << size) - 1;
            for (int heart = 0; heart < HEARTS; heart++) {
                // Without a FACT more may fit, never fewer: those who have one lie too many.
                if (liesBy(heart) == lies + 1) {
                    set &= ~liesBits(heart);
                }
            }
            return set;
        }

        private int liesBits(int heart) {
            int set = 0;
            for (int f = 0; f < size; f++) {
                if (isLie(f, heart)) {
                    set |= 1 << f;
                }
            }
            return set;
        }

        static boolean isIn(long fit, int heart) {
            return (fit >>> heart & 1) != 0;
        }

        /** How many of the HEARTS stop for KINDS. */
        static int stopping(long fit, int kinds) {
            int sum = 0;
            for (int heart = 0; heart < HEARTS; heart++) {
                if (isIn(fit, heart) && (heart & kinds) != 0) {
                    sum++;
                }
            }
            return sum;
        }

        static int bestQuestion(long fit) {
            if (fit == 0) {
                return NONE;
            }
            int all = Long.bitCount(fit);
            int best = NONE;
            int least = HEARTS + 1;
            for (int kinds = 1; kinds < HEARTS; kinds++) {
                int stops = stopping(fit, kinds);
                int greater = Math.max(stops, all - stops);
                if (greater < least) {
                    least = greater;
                    best = kinds;
                }
            }
            return best;
        }

        static int sure(long fit, int kind) {
            if (fit == 0) {
                return NONE;
            }
            int having = stopping(fit, 1 << kind);
            if (having == Long.bitCount(fit)) {
                return 1;
            }
            return having == 0 ? 0 : NONE;
        }

        static int heartAt(long fit, int k) {
            int left = k;
            for (int heart = 0; heart < HEARTS; heart++) {
                if (isIn(fit, heart)) {
                    if (left == 0) {
                        return heart;
                    }
                    left--;
                }
            }
            return MISSING;
        }

        static int smallest(long fit) {
            int least = KINDS;
            for (int heart = 0; heart < HEARTS; heart++) {
                if (isIn(fit, heart)) {
                    least = Math.min(least, Integer.bitCount(heart));
                }
            }
            return fit == 0 ? NONE : least;
        }

        static int largest(long fit) {
            int most = NONE;
            for (int heart = 0; heart < HEARTS; heart++) {
                if (isIn(fit, heart)) {
                    most = Math.max(most, Integer.bitCount(heart));
                }
            }
            return most;
        }
    }

    /** All that is told: the tape, the FAULT, FAIRS, DAYS and LOGS. An image is one more of these. */
    private static final class Told {
        final byte[] tape = new byte[TAPE];
        int length;
        int fault;
        int place = NONE;
        final int[] sizes = new int[SORTS];
        final Fair[] fairs = new Fair[OF_A_SORT];
        final Day[] days = new Day[OF_A_SORT];
        final Ledger[] ledgers = new Ledger[OF_A_SORT];

        Told() {
            for (int i = 0; i < OF_A_SORT; i++) {
                fairs[i] = new Fair();
                days[i] = new Day();
                ledgers[i] = new Ledger();
            }
        }

        void copyFrom(Told other) {
            System.arraycopy(other.tape, 0, tape, 0, TAPE);
            length = other.length;
            fault = other.fault;
            place = other.place;
            System.arraycopy(other.sizes, 0, sizes, 0, SORTS);
            for (int i = 0; i < OF_A_SORT; i++) {
                fairs[i].copyFrom(other.fairs[i]);
                days[i].copyFrom(other.days[i]);
                ledgers[i].copyFrom(other.ledgers[i]);
            }
        }

        void put(int number) {
            for (int shift = 24; shift >= 0; shift -= 8) {
                if (length >= 0 && length < TAPE) {
                    tape[length] = (byte) (number >> shift);
                    length++;
                }
            }
        }

        boolean has(int sort, int n) {
            return n >= 0 && n < OF_A_SORT && n < Sums.at(sizes, sort);
        }

        /** The number that a text would have; NONE if it may not come. */
        int numberFor(int sort, int at) {
            if (sort < 0 || sort >= SORTS) {
                return NONE;
            }
            if (at == NONE) {
                return sizes[sort] < OF_A_SORT ? sizes[sort] : NONE;
            }
            return has(sort, at) ? at : NONE;
        }

        void take(int sort, int number, Reader from) {
            if (sort < 0 || sort >= SORTS || number < 0 || number >= OF_A_SORT) {
                return;
            }
            if (sort == 0) {
                fairs[number].copyFrom(from.fair);
            } else if (sort == 1) {
                days[number].copyFrom(from.day);
            } else {
                ledgers[number].copyFrom(from.ledger);
            }
            sizes[sort] = Math.max(sizes[sort], number + 1);
        }
    }

    /** Reads the tape as a text into a FAIR, DAY or LOG of its own. */
    private static final class Reader {
        private static final int OVER = 0;
        private static final int WORD = 1;
        private static final int NUMBER = 2;
        private static final int MARK = 3;
        private static final int BAD = 4;

        private static final int STAND = 0;
        private static final int GOER = 1;
        private static final int SLANT = 2;
        private static final int MIND = 3;
        private static final int WRONG = 4;
        private static final int CONFESSION = 5;
        private static final int TOWN = 6;
        private static final int TUNE = 7;
        private static final int LIES = 13;
        private static final int STOPPED = 14;
        private static final int LINES = 16;

        /** The first line of each sort of text, and of one that is not there. */
        private static final int[] FIRST = {STAND, TUNE, LIES, LINES};
        private static final int[] GIVEN = {2, 2, 1, 3, 3, 2, 4, 0, 0, 1, 3, 3, 3, 1, 1, 1};
        /** The least and the greatest that each NUMBER of a line can be, four to a line. */
        private static final int[] LOWEST = {
            0, 0, 0, 0, 0, 0, 0, 0, 0, 0, 0, 0, 0, 0, 1, 0,
            0, 0, 0, 0, 1, 0, 0, 0, 0, 0, 0, 0, 0, 0, 0, 0,
            0, 0, 0, 0, 0, 0, 0, 0, 0, 0, 0, 0, 0, 0, 1, 0,
            0, 0, 1, 0, 0, 0, 0, 0, 0, 0, 0, 0, 0, 0, 0, 0};
        private static final int[] GREATEST = {
            9, 9, 0, 0, 9, 9, 0, 0, 9, 0, 0, 0, 5, 18, 9, 0,
            7, 5, 9, 0, 63, 20, 0, 0, 9, 9, 30, 10, 0, 0, 0, 0,
            0, 0, 0, 0, 7, 0, 0, 0, 7, 9, 9, 0, 7, 5, 9, 0,
            7, 5, 9, 0, 8, 0, 0, 0, 63, 0, 0, 0, 63, 0, 0, 0};

        final Fair fair = new Fair();
        final Day day = new Day();
        final Ledger ledger = new Ledger();
        int fault;
        int place;
        private final byte[] tape = new byte[TAPE];
        private int length;
        private final int[] numbers = new int[4];
        private int at;
        private int start;
        private int token;
        private int value;
        private int toldOf;

        /** The tape is empty then, whether or not a text is read from what it had. */
        void takeTape(Told from) {
            System.arraycopy(from.tape, 0, tape, 0, TAPE);
            length = from.length;
            from.length = 0;
        }

        void read(int sort) {
            fair.clear();
            day.size = 0;
            ledger.clear();
            fault = 0;
            place = NONE;
            at = 0;
            toldOf = 0;
            if (!readLines(sort)) {
                fault = 1;
                place = start;
            }
            if (toldOf >> fair.goers != 0) {
                blame(4, length);
            }
        }

        /** False at the first byte or token with which no text goes on: start is its place. */
        private boolean readLines(int sort) {
            for (int i = 0; i <= TAPE; i++) {
                step();
                if (token == OVER) {
                    return true;
                }
                int line = token == WORD ? lineNamed(sort) : NONE;
                if (line < 0 || !readLine(line)) {
                    return false;
                }
            }
            return false;
        }

        private boolean readLine(int line) {
            if (isOneTooMany(line)) {
                blame(3, start);
            }
            int given = Sums.at(GIVEN, line);
            for (int i = 0; i < given; i++) {
                step();
                if (token != NUMBER) {
                    return false;
                }
                if (value < Sums.at(LOWEST, 4 * line + i) || value > Sums.at(GREATEST, 4 * line + i)) {
                    blame(2, start);
                }
                Sums.set(numbers, i, value);
            }
            step();
            if (token != MARK) {
                return false;
            }
            if (fault == 0) {
                keep(line, given);
            }
            return true;
        }

        /** Faults come by rising places, so the first one stays. */
        private void blame(int what, int where) {
            if (fault == 0) {
                fault = what;
                place = where;
            }
        }

        private boolean isOneTooMany(int line) {
            switch (line) {
                case STAND: case SLANT: case WRONG: case LIES: return false;
                case GOER: return fair.goers >= GOERS;
                case MIND: return fair.minds >= MINDS;
                case CONFESSION: return fair.confessions >= CONFESSIONS;
                case TOWN: return fair.towns >= TOWNS;
                default: return line < LIES ? day.size >= DEEDS : ledger.size >= FACTS;
            }
        }

        private void keep(int line, int given) {
            if (line >= LIES) {
                keepOfLog(line);
            } else if (line >= TUNE) {
                day.add(line - TUNE, numbers, given);
            } else {
                keepOfFair(line);
            }
        }

        private void keepOfLog(int line) {
            if (line == LIES) {
                ledger.lies = numbers[0];
            } else {
                ledger.add(line == STOPPED ? 1 : 0, numbers[0]);
            }
        }

        private void keepOfFair(int line) {
            switch (line) {
                case STAND:
                    fair.standX = numbers[0];
                    fair.standY = numbers[1];
                    break;
                case SLANT:
                    fair.slant = numbers[0];
                    break;
                case WRONG:
                    fair.setWrongs(numbers[0], numbers[1], numbers[2]);
                    toldOf |= 1 << numbers[0];
                    break;
                case GOER:
                    fair.setPlace(fair.goers, numbers[0], numbers[1]);
                    fair.goers++;
                    break;
                case MIND:
                    keepRow(fair.mind, fair.minds, 3);
                    fair.minds++;
                    break;
                case CONFESSION:
                    keepRow(fair.confession, fair.confessions, 2);
                    fair.confessions++;
                    break;
                default:
                    keepRow(fair.town, fair.towns, 4);
                    fair.towns++;
                    break;
            }
        }

        private void keepRow(int[] row, int k, int wide) {
            for (int i = 0; i < wide; i++) {
                Sums.set(row, wide * k + i, Sums.at(numbers, i));
            }
        }

        /** The next token: what it is, where it starts, the number that it is. */
        private void step() {
            while (at < length && isBlank(byteAt(at))) {
                at++;
            }
            start = at;
            int b = byteAt(at);
            if (at >= length) {
                token = OVER;
            } else if (b == ';') {
                token = MARK;
                at++;
            } else if (isLetter(b)) {
                token = WORD;
                while (at < length && isLetter(byteAt(at))) {
                    at++;
                }
            } else if (isDigit(b)) {
                stepOverDigits();
            } else {
                token = BAD;
            }
        }

        private void stepOverDigits() {
            value = 0;
            while (at < length && isDigit(byteAt(at))) {
                value = 10 * value + byteAt(at) - '0';
                at++;
            }
            token = at - start <= 2 ? NUMBER : BAD;
        }

        /** The byte at a place of the tape; 0, which no text has, behind its end. */
        private int byteAt(int n) {
            return n >= 0 && n < length && n < TAPE ? tape[n] : 0;
        }

        private static boolean isBlank(int b) {
            return b == 10 || b == 32;
        }

        private static boolean isLetter(int b) {
            return b >= 'a' && b <= 'z';
        }

        private static boolean isDigit(int b) {
            return b >= '0' && b <= '9';
        }

        private int lineNamed(int sort) {
            for (int line = Sums.at(FIRST, sort); line < Sums.at(FIRST, sort + 1); line++) {
                if (isToken(nameOf(line))) {
                    return line;
                }
            }
            return NONE;
        }

        private boolean isToken(String name) {
            if (at - start != name.length()) {
                return false;
            }
            for (int i = 0; i < name.length(); i++) {
                if (byteAt(start + i) != name.charAt(i)) {
                    return false;
                }
            }
            return true;
        }

        private static String nameOf(int line) {
            switch (line) {
                case 0: return "stand";
                case 1: return "goer";
                case 2: return "slant";
                case 3: return "minds";
                case 4: return "wrong";
                case 5: return "confess";
                case 6: return "town";
                case 7: return "tune";
                case 8: return "fit";
                case 9: return "ask";
                case 10: return "walk";
                case 11: return "mend";
                case 12: return "do";
                case 13: return "lies";
                case 14: return "stopped";
                default: return "played";
            }
        }
    }

    /** A FAIR on a DAY, DEED by DEED: the STATE that has come. */
    private static final class Stage {
        private static final int TUNE = 0;
        private static final int FIT = 1;
        private static final int ASK = 2;
        private static final int WALK = 3;
        private static final int MEND = 4;
        private static final int DO = 5;
        /** The DEED for each number below 10. */
        private static final int[] BY_LOT = {TUNE, TUNE, TUNE, WALK, WALK, MEND, DO, DO, ASK, FIT};

        private final Fair scene = new Fair();
        private int tunes;
        private int stopped;
        private int last;
        private int first;
        private int playing;
        private int longest;
        private int asked;
        private int found;
        private int asks;
        private int mended;
        private int done;
        private int farthest;
        private int lot;
        private final int[] lots = new int[4];

        /** Does the first n DEEDS, up to one that can't be: how many it did. */
        int run(Fair f, Day d, int n) {
            begin(f);
            for (int k = 0; k < n; k++) {
                if (!act(d.part(k, 0), d.part(k, 1), d.part(k, 2), d.part(k, 3))) {
                    return k;
                }
            }
            return n;
        }

        void runByLot(Fair f, int seed, int n) {
            begin(f);
            lot = seed;
            for (int i = 0; i < n; i++) {
                if (drawDeed()) {
                    act(lots[0], lots[1], lots[2], lots[3]);
                }
            }
        }

        private void begin(Fair f) {
            scene.copyFrom(f);
            tunes = 0;
            stopped = 0;
            last = NONE;
            first = NONE;
            playing = 0;
            longest = 0;
            asked = 0;
            found = 0;
            asks = 0;
            mended = 0;
            done = 0;
            farthest = 0;
        }

        private int drawBelow(int n) {
            lot = lot * 1103515245 + 12345;
            return n > 0 ? (lot >>> 16) % n : 0;
        }

        /** Draws a DEED; false if nobody is there to do it. */
        private boolean drawDeed() {
            int sort = Sums.at(BY_LOT, drawBelow(BY_LOT.length));
            lots[0] = sort;
            if (sort == TUNE || sort == FIT) {
                return true;
            }
            if (scene.goers == 0) {
                return false;
            }
            lots[1] = drawBelow(scene.goers);
            if (sort == WALK) {
                lots[2] = drawBelow(SIDE);
                lots[3] = drawBelow(SIDE);
            } else if (sort != ASK) {
                lots[2] = drawBelow(KINDS);
                lots[3] = 1 + drawBelow(3);
            }
            return true;
        }

        /** Does a DEED if it can be: whether it did. */
        private boolean act(int sort, int a, int b, int c) {
            if (sort == TUNE) {
                return startTune();
            }
            if (sort == FIT) {
                return straighten();
            }
            if (!scene.hasGoer(a)) {
                return false;
            }
            switch (sort) {
                case ASK: return question(a);
                case WALK: return bring(a, b, c);
                case MEND: return makeGood(a, b, c);
                default: return offend(a, b, c);
            }
        }

        private boolean startTune() {
            if (tunes >= TUNES) {
                return false;
            }
            tunes++;
            boolean stops = scene.slantStops(tunes) || scene.offenders(0) != 0;
            last = stops ? 1 : 0;
            if (stops) {
                stopped++;
                playing = 0;
                first = first == NONE ? tunes : first;
            } else {
                playing++;
                longest = Math.max(longest, playing);
            }
            return true;
        }

        private boolean straighten() {
            if (scene.slant == 0) {
                return false;
            }
            scene.slant = 0;
            return true;
        }

        private boolean question(int g) {
            asks++;
            asked |= 1 << g;
            if (scene.isOffending(g)) {
                found |= 1 << g;
            }
            return true;
        }

        private boolean bring(int g, int x, int y) {
            farthest = Math.max(farthest, scene.farFromGoer(g, x, y));
            scene.setPlace(g, x, y);
            return true;
        }

        private boolean makeGood(int g, int k, int many) {
            int had = scene.wrongsOf(g, k);
            if (had < many) {
                return false;
            }
            scene.setWrongs(g, k, had - many);
            mended += many;
            return true;
        }

        private boolean offend(int g, int k, int many) {
            int had = scene.wrongsOf(g, k);
            if (had + many > MOST_WRONGS) {
                return false;
            }
            scene.setWrongs(g, k, had + many);
            done += many;
            return true;
        }

        int tell(int what) {
            switch (what) {
                case 0: return tunes;
                case 1: return stopped;
                case 2: return scene.slant;
                case 3: return scene.offenders(0);
                case 4: return asked;
                case 5: return found;
                case 6: return last;
                default: return tellOfGoer(what);
            }
        }

        private int tellOfGoer(int what) {
            if (what < 10 || what % 10 >= GOERS) {
                return MISSING;
            }
            int tens = what / 10;
            int k = what % 10;
            if (tens <= 2) {
                return !scene.hasGoer(k) ? MISSING : tens == 1 ? scene.xOf(k) : scene.yOf(k);
            }
            return scene.hasGoer(tens - 10) && k < KINDS ? scene.wrongsOf(tens - 10, k) : MISSING;
        }

        int sumUp(int what) {
            switch (what) {
                case 0: return first;
                case 1: return longest;
                case 2: return mended;
                case 3: return done;
                case 4: return asks;
                case 5: return farthest;
                default: return MISSING;
            }
        }
    }

    /** Rows of TOWNS: the ROUTE and the ROUND. From each TOWN, some being behind, the best way on. */
    private static final class Ways {
        /** The STAND's number among the stops. */
        private static final int START = TOWNS;
        private static final int STOPS = TOWNS + 1;

        private final int[] best = new int[STOPS << TOWNS];
        private final int[] steps = new int[STOPS << TOWNS];
        private final int[] ahead = new int[STOPS << TOWNS];
        private final int[] far = new int[STOPS * STOPS];
        private final int[] pay = new int[TOWNS];
        private final int[] row = new int[TOWNS];
        int size;
        int worth;

        /** All TOWNS and back, at a price of 1 a step, or as many as pay, at 10. */
        void lay(Fair f, boolean whole) {
            measure(f, whole);
            for (int seen = (1 << f.towns) - 1; seen >= 0; seen--) {
                for (int stop = 0; stop < f.towns; stop++) {
                    if ((seen >> stop & 1) != 0) {
                        goOn(f.towns, seen, stop, whole);
                    }
                }
            }
            goOn(f.towns, 0, START, whole);
            worth = best[START];
            follow();
        }

        private void measure(Fair f, boolean whole) {
            int price = whole ? 1 : 10;
            for (int a = 0; a < STOPS; a++) {
                for (int b = 0; b < STOPS; b++) {
                    far[STOPS * a + b] = price * Sums.far(xOf(f, a), yOf(f, a), xOf(f, b), yOf(f, b));
                }
            }
            for (int t = 0; t < TOWNS; t++) {
                pay[t] = whole ? 0 : Sums.at(f.town, 4 * t + 2) * Sums.at(f.town, 4 * t + 3);
            }
        }

        private static int xOf(Fair f, int stop) {
            return stop == START ? f.standX : Sums.at(f.town, 4 * stop);
        }

        private static int yOf(Fair f, int stop) {
            return stop == START ? f.standY : Sums.at(f.town, 4 * stop + 1);
        }

        /** The most that comes yet, then the fewest steps, then the first TOWN by number. */
        private void goOn(int towns, int seen, int stop, boolean whole) {
            boolean mayRest = !whole || seen == (1 << towns) - 1;
            int most = whole ? -Sums.at(far, STOPS * stop + START) : 0;
            int fewest = 0;
            int to = NONE;
            for (int t = 0; t < towns; t++) {
                if ((seen >> t & 1) != 0) {
                    continue;
                }
                int there = STOPS * (seen | 1 << t) + t;
                int value = Sums.at(pay, t) - Sums.at(far, STOPS * stop + t) + Sums.at(best, there);
                int more = 1 + Sums.at(steps, there);
                boolean better = value > most || value == most && more < fewest;
                if (better || !mayRest && to == NONE) {
                    most = value;
                    fewest = more;
                    to = t;
                }
            }
            int here = STOPS * seen + stop;
            Sums.set(best, here, most);
            Sums.set(steps, here, fewest);
            Sums.set(ahead, here, to);
        }

        private void follow() {
            size = Math.min(steps[START], TOWNS);
            int seen = 0;
            int stop = START;
            for (int k = 0; k < size; k++) {
                stop = Sums.at(ahead, STOPS * seen + stop);
                row[k] = stop;
                seen |= 1 << stop;
            }
        }

        int townAt(int k, int otherwise) {
            return k >= 0 && k < size ? Sums.at(row, k) : otherwise;
        }
    }

    /** CONFESSIONS, as sets (bits). */
    private static final class Pardons {
        private Pardons() {
        }

        static int kindsOf(Fair f, int set) {
            int kinds = 0;
            for (int c = 0; c < f.confessions; c++) {
                if ((set >> c & 1) != 0) {
                    kinds |= Sums.at(f.confession, 2 * c);
                }
            }
            return kinds;
        }

        static int priceOf(Fair f, int set) {
            int price = 0;
            for (int c = 0; c < f.confessions; c++) {
                if ((set >> c & 1) != 0) {
                    price += Sums.at(f.confession, 2 * c + 1);
                }
            }
            return price;
        }

        private static int needed(Fair f) {
            int kinds = 0;
            for (int m = 0; m < f.minds; m++) {
                if (f.wrongsOfKind(f.kindOf(m)) > 0) {
                    kinds |= 1 << f.kindOf(m);
                }
            }
            return kinds;
        }

        /** The cheapest set that suffices, NONE if there is none. */
        static int cheapest(Fair f) {
            int needed = needed(f);
            int best = NONE;
            int least = 0;
            for (int set = 0; set < 1 << f.confessions; set++) {
                if ((needed & ~kindsOf(f, set)) == 0) {
                    int price = priceOf(f, set);
                    if (best == NONE || price < least) {
                        best = set;
                        least = price;
                    }
                }
            }
            return best;
        }

        /** The set of most KINDS that a purse of p pays. */
        static int broadest(Fair f, int p) {
            int best = 0;
            int most = 0;
            for (int set = 1; set < 1 << f.confessions; set++) {
                int kinds = Integer.bitCount(kindsOf(f, set));
                if (kinds > most && priceOf(f, set) <= p) {
                    best = set;
                    most = kinds;
                }
            }
            return best;
        }
    }

    /** The GOERS among themselves: their WRONGS and their PLACES. */
    private static final class Folk {
        private final int[] weights = new int[GOERS];
        private final int[] near = new int[GOERS];
        private final int[] above = new int[GOERS];
        private final int[] height = new int[GOERS];
        private final int[] rung = new int[GOERS];
        int rungs;

        static int toMend(Fair f, int g) {
            int sum = 0;
            for (int k = 0; k < KINDS; k++) {
                int excess = 0;
                for (int m = 0; m < f.minds; m++) {
                    if (f.kindOf(m) == k && f.farOf(g) <= f.reachOf(m)) {
                        excess = Math.max(excess, f.wrongsOf(g, k) - f.leastOf(m) + 1);
                    }
                }
                sum += excess;
            }
            return sum;
        }

        static int questionsForSure(int goers) {
            int questions = 0;
            for (int q = 0; q < GOERS && 1 << q < goers; q++) {
                questions = q + 1;
            }
            return questions;
        }

        /** The two that are sought least are told apart last (Huffman). */
        int meanQuestions(Fair f, boolean under) {
            for (int g = 0; g < f.goers; g++) {
                Sums.set(weights, g, f.wrongsTogether(g) + 1);
            }
            int sum = 0;
            for (int left = f.goers; left > 1; left--) {
                int a = takeLightest(left);
                int b = takeLightest(left - 1);
                Sums.set(weights, left - 2, a + b);
                sum += a + b;
            }
            return (int) Sums.part(sum, f.allWrongs() + f.goers, under);
        }

        /** The lightest of the first left; the last of these stands in its place then. */
        private int takeLightest(int left) {
            int lightest = 0;
            for (int i = 1; i < left; i++) {
                if (Sums.at(weights, i) < Sums.at(weights, lightest)) {
                    lightest = i;
                }
            }
            int weight = Sums.at(weights, lightest);
            Sums.set(weights, lightest, Sums.at(weights, left - 1));
            return weight;
        }

        static int withoutWrongs(Fair f) {
            int set = 0;
            for (int g = 0; g < f.goers; g++) {
                if (f.wrongsTogether(g) == 0) {
                    set |= 1 << g;
                }
            }
            return set;
        }

        static int worst(Fair f) {
            int worst = NONE;
            int most = NONE;
            for (int g = 0; g < f.goers; g++) {
                if (f.wrongsTogether(g) > most) {
                    most = f.wrongsTogether(g);
                    worst = g;
                }
            }
            return worst;
        }

        static int mostKind(Fair f) {
            int kind = 0;
            for (int k = 1; k < KINDS; k++) {
                if (f.wrongsOfKind(k) > f.wrongsOfKind(kind)) {
                    kind = k;
                }
            }
            return kind;
        }

        int tree(Fair f) {
            for (int g = 0; g < f.goers; g++) {
                Sums.set(near, g, f.farOf(g));
            }
            int joined = 0;
            int sum = 0;
            for (int i = 0; i < f.goers; i++) {
                int to = nearestApart(f.goers, joined);
                joined |= 1 << to;
                sum += Sums.at(near, to);
                for (int g = 0; g < f.goers; g++) {
                    Sums.set(near, g, Math.min(Sums.at(near, g), between(f, to, g)));
                }
            }
            return sum;
        }

        private int nearestApart(int goers, int joined) {
            int best = 0;
            int least = MOST_FAR + 1;
            for (int g = 0; g < goers; g++) {
                // A joined one's near is 0 by now: only those apart are looked at.
                if ((joined >> g & 1) == 0 && Sums.at(near, g) < least) {
                    least = Sums.at(near, g);
                    best = g;
                }
            }
            return best;
        }

        private static int between(Fair f, int a, int b) {
            return f.farFromGoer(a, f.xOf(b), f.yOf(b));
        }

        static int nearestTwo(Fair f) {
            int best = NONE;
            int least = MOST_FAR + 1;
            for (int a = 0; a < f.goers; a++) {
                for (int b = a + 1; b < f.goers; b++) {
                    if (between(f, a, b) < least) {
                        least = between(f, a, b);
                        best = 10 * a + b;
                    }
                }
            }
            return best;
        }

        static int betweenNearest(Fair f) {
            int two = nearestTwo(f);
            return two < 0 ? 0 : between(f, two / 10, two % 10);
        }

        static int farToAll(Fair f, int place) {
            int sum = 0;
            for (int g = 0; g < f.goers; g++) {
                sum += f.farFromGoer(g, place / SIDE, place % SIDE);
            }
            return sum;
        }

        static int middle(Fair f) {
            int best = 0;
            int least = farToAll(f, 0);
            for (int place = 1; place < PLACES; place++) {
                int far = farToAll(f, place);
                if (far < least) {
                    least = far;
                    best = place;
                }
            }
            return best;
        }

        /** Has a as many WRONGS of each KIND as b, or more? */
        private static boolean matches(Fair f, int a, int b) {
            for (int k = 0; k < KINDS; k++) {
                if (f.wrongsOf(a, k) < f.wrongsOf(b, k)) {
                    return false;
                }
            }
            return true;
        }

        static int twins(Fair f) {
            int couples = 0;
            for (int a = 0; a < f.goers; a++) {
                for (int b = a + 1; b < f.goers; b++) {
                    if (matches(f, a, b) && matches(f, b, a)) {
                        couples++;
                    }
                }
            }
            return couples;
        }

        /** Finds the LADDER: how high it goes on above each GOER, then its row. */
        void climb(Fair f) {
            compare(f);
            int highest = 0;
            for (int h = 1; h <= f.goers; h++) {
                for (int g = 0; g < f.goers; g++) {
                    if (h == 1 || hasAbove(f.goers, g, h - 1)) {
                        Sums.set(height, g, h);
                        highest = h;
                    }
                }
            }
            rungs = highest;
            int open = (1 << f.goers) - 1;
            for (int i = 0; i < highest; i++) {
                int g = firstOfHeight(f.goers, open, highest - i);
                Sums.set(rung, i, g);
                open = Sums.at(above, g);
            }
        }

        private void compare(Fair f) {
            for (int a = 0; a < f.goers; a++) {
                int set = 0;
                for (int b = 0; b < f.goers; b++) {
                    if (matches(f, b, a) && !matches(f, a, b)) {
                        set |= 1 << b;
                    }
                }
                Sums.set(above, a, set);
            }
        }

        private boolean hasAbove(int goers, int g, int h) {
            return firstOfHeight(goers, Sums.at(above, g), h) >= 0;
        }

        private int firstOfHeight(int goers, int set, int h) {
            for (int g = 0; g < goers; g++) {
                if ((set >> g & 1) != 0 && Sums.at(height, g) >= h) {
                    return g;
                }
            }
            return NONE;
        }

        int rungAt(int k) {
            return k >= 0 && k < rungs ? Sums.at(rung, k) : NONE;
        }
    }

    /** Who would offend: the STAND or a GOER elsewhere, the MINDS otherwise, the stoker and the town by turns. */
    private static final class Conscience {
        private final int[] ears = new int[GOERS];

        private void listen(Fair f) {
            for (int g = 0; g < f.goers; g++) {
                Sums.set(ears, g, f.earshot(g, 0, 0));
            }
        }

        /** How many offend, the STAND being at a PLACE; listen first. */
        private int heardFrom(Fair f, int place) {
            int sum = 0;
            for (int g = 0; g < f.goers; g++) {
                if (f.farFromGoer(g, place / SIDE, place % SIDE) <= Sums.at(ears, g)) {
                    sum++;
                }
            }
            return sum;
        }

        int offendersAt(Fair f, int place) {
            listen(f);
            return heardFrom(f, place);
        }

        int quietPlaces(Fair f) {
            listen(f);
            int sum = 0;
            for (int place = 0; place < PLACES; place++) {
                if (heardFrom(f, place) == 0) {
                    sum++;
                }
            }
            return sum;
        }

        int nearestQuiet(Fair f) {
            listen(f);
            int best = NONE;
            int least = MOST_FAR + 1;
            for (int place = 0; place < PLACES; place++) {
                int far = f.farFromStand(place / SIDE, place % SIDE);
                if (far < least && heardFrom(f, place) == 0) {
                    least = far;
                    best = place;
                }
            }
            return best;
        }

        int worstPlace(Fair f) {
            listen(f);
            int best = 0;
            int most = NONE;
            for (int place = 0; place < PLACES; place++) {
                int offending = heardFrom(f, place);
                if (offending > most) {
                    most = offending;
                    best = place;
                }
            }
            return best;
        }

        /** The PLACE nearest to a GOER's where he would not offend. */
        static int refuge(Fair f, int g) {
            int ear = f.earshot(g, 0, 0);
            int best = NONE;
            int least = MOST_FAR + 1;
            for (int place = 0; place < PLACES; place++) {
                int x = place / SIDE;
                int y = place % SIDE;
                if (f.farFromStand(x, y) > ear && f.farFromGoer(g, x, y) < least) {
                    least = f.farFromGoer(g, x, y);
                    best = place;
                }
            }
            return best;
        }

        static int grace(Fair f) {
            for (int d = 0; d < MOST_WRONGS; d++) {
                boolean peace = true;
                for (int g = 0; g < f.goers; g++) {
                    peace = peace && f.farOf(g) > f.earshot(g, d, 0);
                }
                if (peace) {
                    return d;
                }
            }
            return MOST_WRONGS;
        }

        static int deafness(Fair f) {
            int d = 0;
            for (int g = 0; g < f.goers; g++) {
                d = Math.max(d, f.earshot(g, 0, 0) - f.farOf(g) + 1);
            }
            return d;
        }

        /** GOERS (bits) who would offend at the STAND's PLACE. */
        private static int wouldOffend(Fair f) {
            int set = 0;
            for (int g = 0; g < f.goers; g++) {
                if (f.earshot(g, 0, 0) >= 0) {
                    set |= 1 << g;
                }
            }
            return set;
        }

        static int inTheEnd(Fair f, int n) {
            return lookAhead(n, true, f.offenders(0), wouldOffend(f));
        }

        static int firstTurn(Fair f, int n) {
            if (n <= 0) {
                return NONE;
            }
            int now = f.offenders(0);
            int would = wouldOffend(f);
            int due = lookAhead(n, true, now, would);
            for (int g = 0; g < f.goers; g++) {
                if (lookAhead(n - 1, false, now & ~(1 << g), would & ~(1 << g)) == due) {
                    return g;
                }
            }
            return GOERS;
        }

        /** How many offend in the end, left turns from here; who would not offend anywhere makes no turn. */
        private static int lookAhead(int left, boolean stoker, int now, int would) {
            if (left <= 0) {
                return Integer.bitCount(now);
            }
            int best = lookAhead(left - 1, !stoker, now, would);
            int apt = stoker ? would : would & ~now;
            for (int g = 0; g < GOERS; g++) {
                int bit = 1 << g;
                if ((apt & bit) == 0) {
                    continue;
                }
                if (stoker) {
                    best = Math.min(best, lookAhead(left - 1, false, now & ~bit, would & ~bit));
                } else {
                    best = Math.max(best, lookAhead(left - 1, true, now | bit, would));
                }
            }
            return best;
        }
    }
}
