import java.util.ArrayList;
import java.util.List;
import java.util.Random;

/** Fairs, days and logs by lot, every answer held against the naive one. */
public final class RandomAgainstNaive {
    private static final Check check = new Check();
    private static final Random lot = new Random(20261118);

    private static Naive.Fair someFair(int size) {
        Naive.Fair f = new Naive.Fair();
        int side = 2 + lot.nextInt(9);
        if (lot.nextBoolean()) f.stand = new int[] {lot.nextInt(10), lot.nextInt(10)};
        f.slant = lot.nextInt(3) == 0 ? 0 : lot.nextInt(10);
        int minds = lot.nextInt(size + 1);
        int kinds = 1 + lot.nextInt(6);
        int strict = 1 + lot.nextInt(9);
        int reach = 1 + lot.nextInt(19);
        for (int m = 0; m < minds && m < 6; m++) f.minds.add(new int[] {lot.nextInt(kinds), lot.nextInt(reach), 1 + lot.nextInt(strict)});
        int goers = lot.nextInt(size + 3);
        int most = 1 + lot.nextInt(10);
        int often = 1 + lot.nextInt(4);
        for (int g = 0; g < goers && g < 8; g++) {
            f.goers.add(new int[] {lot.nextInt(side), lot.nextInt(side)});
            int given = 0;
            for (int k = 0; k < 6 && given < 4; k++) {
                if (lot.nextInt(often) == 0) {
                    f.wrongs[g][k] = lot.nextInt(most);
                    if (f.wrongs[g][k] > 0) given++;
                }
            }
        }
        int confessions = lot.nextInt(7);
        for (int c = 0; c < confessions; c++) f.confessions.add(new int[] {1 + lot.nextInt(63), lot.nextInt(1 + lot.nextInt(21))});
        int towns = lot.nextInt(7);
        for (int t = 0; t < towns; t++) f.towns.add(new int[] {lot.nextInt(side), lot.nextInt(side), lot.nextInt(31), lot.nextInt(11)});
        while (f.text().length() > 600) f.confessions.remove(0);
        return f;
    }

    private static List<int[]> someDay(int goers) {
        List<int[]> day = new ArrayList<>();
        int n = lot.nextInt(41);
        for (int i = 0; i < n; i++) {
            int sort = new int[] {0, 0, 1, 2, 3, 3, 4, 5, 5}[lot.nextInt(9)];
            if (sort == 1 && lot.nextInt(4) > 0) sort = 0;
            int g = lot.nextInt(10) == 0 ? lot.nextInt(8) : lot.nextInt(Math.max(1, goers));
            if (sort < 2) day.add(new int[] {sort});
            else if (sort == 2) day.add(new int[] {2, g});
            else if (sort == 3) day.add(new int[] {3, g, lot.nextInt(10), lot.nextInt(10)});
            else day.add(new int[] {sort, g, lot.nextInt(6), 1 + lot.nextInt(lot.nextInt(5) == 0 ? 9 : 2)});
        }
        return day;
    }

    private static String text(List<int[]> day) {
        StringBuilder b = new StringBuilder();
        for (int[] d : day) {
            b.append(new String[] {"tune", "fit", "ask", "walk", "mend", "do"}[d[0]]);
            for (int i = 1; i < d.length; i++) b.append(" " + d[i]);
            b.append(";");
        }
        return b.toString();
    }

    private static void asTold(UprightFair x, Naive.Fair f, String t) {
        check.due(t + " minds", x.fair(0, 3), f.minds.size());
        for (int what = 0; what < 300; what++) {
            int want = -1;
            int k = what % 10;
            int[] whole = {f.stand[0], f.stand[1], f.slant, f.minds.size(), f.goers.size(), f.confessions.size(), f.towns.size()};
            if (what < 7) want = whole[what];
            else if (what >= 10 && what < 40 && k < f.minds.size()) want = f.minds.get(k)[what / 10 - 1];
            else if (what >= 40 && what < 60 && k < f.goers.size()) want = f.goers.get(k)[what / 10 - 4];
            else if (what >= 60 && what < 80 && k < f.confessions.size()) want = f.confessions.get(k)[what / 10 - 6];
            else if (what >= 100 && what < 200 && what / 10 - 10 < f.goers.size() && k < 6) want = f.wrongs[what / 10 - 10][k];
            else if (what >= 200 && what / 10 - 20 < f.towns.size() && k < 4) want = f.towns.get(what / 10 - 20)[k];
            check.due(t + " fair what " + what, x.fair(0, what), want);
        }
    }

    private static void towns(UprightFair x, Naive.Fair f, String t) {
        List<Integer> route = Naive.route(f);
        check.due(t + " route", x.route(0, 0), Naive.pays(f, route));
        check.due(t + " route size", x.route(0, 1), route.size());
        List<Integer> round = Naive.round(f);
        check.due(t + " round", x.round(0, -1), Naive.length(f, round));
        for (int k = 0; k < 8; k++) {
            check.due(t + " route " + k, x.route(0, 10 + k), k < route.size() ? route.get(k) : -2);
            check.due(t + " round " + k, x.round(0, k), k < round.size() ? round.get(k) : -1);
        }
    }

    private static void confessions(UprightFair x, Naive.Fair f, String t) {
        int set = Naive.confess(f);
        check.due(t + " confess which", x.confess(0, true), set);
        check.due(t + " confess", x.confess(0, false), set < 0 ? -1 : Naive.price(f, set));
        for (int p = -1; p < 101; p++) {
            int best = p < 0 || p > 99 ? -1 : Naive.purse(f, p);
            check.due(t + " purse which " + p, x.purse(0, p, true), best);
            check.due(t + " purse " + p, x.purse(0, p, false), best < 0 ? -1 : Integer.bitCount(Naive.kinds(f, best)));
        }
    }

    private static void goers(UprightFair x, Naive.Fair f, String t) {
        int n = f.goers.size();
        int all = 0;
        for (int g = 0; g < n; g++) all += f.together(g);
        for (int g = 0; g < n; g++) {
            check.due(t + " mend " + g, x.mend(0, g), Naive.mend(f, g, 0));
            int[] walk = Naive.walk(f, g);
            check.due(t + " walk " + g, x.walk(0, g, false), walk[0]);
            check.due(t + " walk where " + g, x.walk(0, g, true), walk[1]);
            long[] share = all == 0 ? new long[] {-1, -1} : Naive.least(f.together(g), all);
            check.due(t + " share " + g, x.share(0, g, false), share[0]);
            check.due(t + " share under " + g, x.share(0, g, true), share[1]);
        }
        check.due(t + " mend", x.mend(0, n), -1);
        check.due(t + " walk", x.walk(0, n, true), -1);
        int[] asking = n == 0 ? new int[] {-1, -1, -1} : Naive.asking(f);
        for (int what = 0; what < 3; what++) check.due(t + " asking " + what, x.asking(0, what), asking[what]);
        List<Integer> ladder = Naive.ladder(f, new ArrayList<>());
        check.due(t + " ladder", x.ladder(0, -1), ladder.size());
        for (int k = 0; k < 9; k++) check.due(t + " ladder " + k, x.ladder(0, k), k < ladder.size() ? ladder.get(k) : -1);
        for (int r = 0; r <= 18; r++) {
            int ring = 0;
            for (int g = 0; g < n; g++) if (Naive.far(f.goers.get(g), f.stand) <= r) ring |= 1 << g;
            check.due(t + " ring " + r, x.ring(0, r), ring);
        }
        for (int k = 0; k <= n; k++) {
            check.due(t + " guess " + k, x.guess(0, k, false), Naive.guess(f, k)[0]);
            check.due(t + " guess under " + k, x.guess(0, k, true), Naive.guess(f, k)[1]);
        }
        for (int p = 0; p <= 10; p++) {
            long[] calm = Naive.calm(f, p);
            long up = x.calm(0, p, false);
            long under = x.calm(0, p, true);
            check.due(t + " calm " + p, up * calm[1], under * calm[0]);
            check.due(t + " calm in least terms " + p, Naive.least(up, under)[1], under);
        }
    }

    private static void upright(UprightFair x, Naive.Fair f, String t) {
        int n = f.goers.size();
        int good = 0;
        int worst = -1;
        int heard = 0;
        int near = -1;
        int far = 0;
        int twins = 0;
        int[] kinds = new int[6];
        for (int g = 0; g < n; g++) {
            if (f.together(g) == 0) good |= 1 << g;
            if (worst < 0 || f.together(g) > f.together(worst)) worst = g;
            for (int[] m : f.minds) if (Naive.far(f.goers.get(g), f.stand) <= m[1]) heard |= 1 << g;
            for (int k = 0; k < 6; k++) kinds[k] += f.wrongs[g][k];
            for (int h = g + 1; h < n; h++) {
                int d = Naive.far(f.goers.get(g), f.goers.get(h));
                if (near < 0 || d < far) {
                    near = 10 * g + h;
                    far = d;
                }
                if (java.util.Arrays.equals(f.wrongs[g], f.wrongs[h])) twins++;
            }
        }
        int most = 0;
        for (int k = 0; k < 6; k++) if (kinds[k] > kinds[most]) most = k;
        int[] broad = Naive.broad(f);
        int[] want = {good, worst, most, heard, Naive.idle(f), Naive.tree(f), near, far, broad[0], broad[1]};
        for (int what = 0; what < want.length; what++) check.due(t + " upright " + what, x.upright(0, what), want[what]);
        check.due(t + " twins", x.centre(0, 4), twins);
        int forget = Naive.forget(f);
        check.due(t + " forget", x.forget(0, false), Integer.bitCount(forget));
        check.due(t + " forget which", x.forget(0, true), forget);
        check.due(t + " grace", x.centre(0, 5), Naive.grace(f));
        check.due(t + " deaf", x.centre(0, 6), Naive.deaf(f));
    }

    private static void ground(UprightFair x, Naive.Fair f, String t) {
        int centre = -1;
        int far = 0;
        int spot = -1;
        int many = 0;
        for (int p = 0; p < 100; p++) {
            Naive.Fair c = f.copy();
            c.stand = new int[] {p / 10, p % 10};
            int sum = 0;
            for (int[] g : f.goers) sum += Naive.far(g, c.stand);
            int offend = Integer.bitCount(c.offenders());
            if (centre < 0 || sum < far) {
                centre = p;
                far = sum;
            }
            if (spot < 0 || offend > many) {
                spot = p;
                many = offend;
            }
        }
        int[] want = {centre, far, spot, many};
        for (int what = 0; what < 4; what++) check.due(t + " centre " + what, x.centre(0, what), want[what]);
        int[] quiet = Naive.quiet(f);
        check.due(t + " quiet", x.quiet(0, false), quiet[0]);
        check.due(t + " quiet where", x.quiet(0, true), quiet[1]);
        int plays = 0;
        for (int n = 0; n <= 99; n++) {
            if (n > 0 && Naive.plays(f, n)) plays++;
            int next = n + 1;
            while (next <= 99 && !Naive.plays(f, next)) next++;
            check.due(t + " plays " + n, x.plays(0, n), plays);
            check.due(t + " next " + n, x.next(0, n), next > 99 ? -1 : next);
        }
    }

    private static void turns(UprightFair x, Naive.Fair f, String t, int upTo) {
        for (int n = 0; n <= upTo; n++) {
            int[] want = Naive.turns(f, 0, n);
            check.due(t + " turns " + n, x.byTurns(0, n, false), want[0]);
            check.due(t + " turns first " + n, x.byTurns(0, n, true), want[1]);
        }
    }

    private static void day(UprightFair x, Naive.Fair f, String t) {
        List<int[]> day = someDay(f.goers.size());
        String dt = t + " / " + text(day);
        check.due(dt + " text", Check.tell(x, 1, text(day)), 0);
        check.due(dt + " deeds", x.deed(0, -1, 0), day.size());
        Naive.Run run = new Naive.Run(f);
        int n = 0;
        for (boolean can = true; can;) {
            for (int what = -1; what < 200; what++) check.due(dt + " state " + n + " " + what, x.state(0, 0, n, what), run.state(what));
            can = n < day.size() && run.act(day.get(n));
            if (can) n++;
        }
        for (int k = 0; k < day.size(); k++) {
            for (int i = 0; i < 4; i++) check.due(dt + " deed " + k + " " + i, x.deed(0, k, i), i < day.get(k).length ? day.get(k)[i] : -1);
        }
        check.due(dt + " till", x.till(0, 0), n);
        check.due(dt + " state beyond", x.state(0, 0, n + 1, 0), -2);
        for (int what = -1; what < 8; what++) check.due(dt + " after " + what, x.after(0, 0, what), run.after(what));
        for (int i = 0; i < 4; i++) {
            int seed = lot.nextInt();
            int times = lot.nextInt(61);
            Naive.Run drawn = Naive.drawn(f, seed, times);
            for (int what = -1; what < 200; what++) {
                check.due(t + " drawn " + seed + " " + times + " " + what, x.drawn(0, seed, times, what), drawn.state(what));
            }
        }
    }

    private static void log() {
        List<int[]> facts = new ArrayList<>();
        int n = lot.nextInt(9);
        int lies = lot.nextInt(1 + lot.nextInt(5));
        int heart = lot.nextInt(64);
        boolean wild = lot.nextInt(3) == 0;
        StringBuilder b = new StringBuilder();
        if (lies > 0) b.append("lies " + lies + ";");
        for (int i = 0; i < n; i++) {
            int kinds = lot.nextInt(64) & lot.nextInt(64);
            int stopped = wild || lot.nextInt(6) == 0 ? lot.nextInt(2) : (heart & kinds) != 0 ? 1 : 0;
            facts.add(new int[] {stopped, kinds});
            b.append((stopped == 1 ? "stopped " : "played ") + kinds + ";");
        }
        String t = b.toString();
        UprightFair x = Check.with(2, t);
        List<Integer> fit = Naive.fit(facts, lies);
        check.due(t + " lies", x.log(0, 0), lies);
        check.due(t + " facts", x.log(0, 1), n);
        for (int k = 0; k < 10; k++) {
            check.due(t + " stopped " + k, x.log(0, 10 + k), k < n ? facts.get(k)[0] : -1);
            check.due(t + " kinds " + k, x.log(0, 20 + k), k < n ? facts.get(k)[1] : -1);
        }
        check.due(t + " fits", x.fits(0, 0), fit.size());
        int ask = -1;
        int least = 99;
        for (int kinds = 0; kinds < 64; kinds++) {
            int stops = Naive.stops(fit, kinds);
            if (kinds > 0 && !fit.isEmpty() && Math.max(stops, fit.size() - stops) < least) {
                least = Math.max(stops, fit.size() - stops);
                ask = kinds;
            }
            long[] odds = fit.isEmpty() ? new long[] {-1, -1} : Naive.least(stops, fit.size());
            check.due(t + " odds " + kinds, x.odds(0, kinds, false), odds[0]);
            check.due(t + " odds under " + kinds, x.odds(0, kinds, true), odds[1]);
        }
        check.due(t + " ask", x.fits(0, 1), ask);
        for (int k = 0; k < 6; k++) {
            int has = Naive.stops(fit, 1 << k);
            check.due(t + " sure " + k, x.fits(0, 2 + k), fit.isEmpty() ? -1 : has == fit.size() ? 1 : has == 0 ? 0 : -1);
        }
        for (int k = 0; k < 70; k++) check.due(t + " fits " + k, x.fits(0, 10 + k), k < fit.size() ? fit.get(k) : -2);
        check.due(t + " small", x.small(0, 0), fit.stream().mapToInt(Integer::bitCount).min().orElse(-1));
        check.due(t + " large", x.small(0, 1), fit.stream().mapToInt(Integer::bitCount).max().orElse(-1));
        int truth = 0;
        while (Naive.fit(facts, truth).isEmpty()) truth++;
        check.due(t + " true", x.small(0, 2), truth);
        int needless = 0;
        for (int k = 0; k < n; k++) {
            List<int[]> fewer = new ArrayList<>(facts);
            fewer.remove(k);
            if (Naive.fit(fewer, lies).equals(fit)) needless |= 1 << k;
        }
        check.due(t + " needless", x.small(0, 3), needless);
    }

    /** Six MINDS, eight GOERS, six CONFESSIONS, six TOWNS. */
    private static Naive.Fair fullFair() {
        Naive.Fair f = new Naive.Fair();
        f.stand = new int[] {0, 9};
        f.slant = 9;
        f.minds.addAll(List.of(Full.MINDS));
        f.goers.addAll(List.of(Full.GOERS));
        f.confessions.addAll(List.of(Full.CONFESSIONS));
        f.towns.addAll(List.of(Full.TOWNS));
        for (int[] w : Full.WRONGS) f.wrongs[w[0]][w[1]] = w[2];
        return f;
    }

    private static void all(Naive.Fair f, int turns) {
        String t = f.text();
        UprightFair x = Check.with(0, t);
        asTold(x, f, t);
        towns(x, f, t);
        confessions(x, f, t);
        goers(x, f, t);
        upright(x, f, t);
        ground(x, f, t);
        turns(x, f, t, turns);
        day(x, f, t);
    }

    public static void main(String[] args) {
        check.due("the full FAIR", fullFair().text().equals(Full.text(0)), true);
        all(fullFair(), 4);
        all(new Naive.Fair(), 4);
        for (int i = 0; i < 400; i++) {
            all(someFair(i % 7), i % 20 == 6 ? 4 : 3);
            log();
        }
        check.end("RandomAgainstNaive");
    }
}
