import java.util.ArrayList;
import java.util.Arrays;
import java.util.List;

/** The document once more, word by word and by trying out, for the random runs to be held against. */
final class Naive {
    static final int NONE = -1;

    /** A FAIR: lists that grow, nothing looked up twice. */
    static final class Fair {
        int[] stand = {5, 5};
        int slant = 0;
        List<int[]> minds = new ArrayList<>();
        List<int[]> goers = new ArrayList<>();
        int[][] wrongs = new int[8][6];
        List<int[]> confessions = new ArrayList<>();
        List<int[]> towns = new ArrayList<>();

        Fair copy() {
            Fair f = new Fair();
            f.stand = stand.clone();
            f.slant = slant;
            for (int[] m : minds) f.minds.add(m.clone());
            for (int[] g : goers) f.goers.add(g.clone());
            for (int g = 0; g < 8; g++) f.wrongs[g] = wrongs[g].clone();
            f.confessions.addAll(confessions);
            f.towns.addAll(towns);
            return f;
        }

        boolean offends(int g) {
            for (int[] m : minds) {
                if (far(goers.get(g), stand) <= m[1] && wrongs[g][m[0]] >= m[2]) return true;
            }
            return false;
        }

        int offenders() {
            int set = 0;
            for (int g = 0; g < goers.size(); g++) if (offends(g)) set |= 1 << g;
            return set;
        }

        boolean quiet() {
            return offenders() == 0;
        }

        int together(int g) {
            return Arrays.stream(wrongs[g]).sum();
        }

        String text() {
            StringBuilder b = new StringBuilder();
            if (stand[0] != 5 || stand[1] != 5) b.append("stand " + stand[0] + " " + stand[1] + ";");
            if (slant != 0) b.append("slant " + slant + ";");
            for (int[] m : minds) b.append("minds " + m[0] + " " + m[1] + " " + m[2] + ";");
            for (int[] g : goers) b.append("goer " + g[0] + " " + g[1] + ";");
            for (int g = 0; g < goers.size(); g++) {
                for (int k = 0; k < 6; k++) if (wrongs[g][k] != 0) b.append("wrong " + g + " " + k + " " + wrongs[g][k] + ";");
            }
            for (int[] c : confessions) b.append("confess " + c[0] + " " + c[1] + ";");
            for (int[] t : towns) b.append("town " + t[0] + " " + t[1] + " " + t[2] + " " + t[3] + ";");
            return b.toString();
        }
    }

    static int far(int[] a, int[] b) {
        return Math.abs(a[0] - b[0]) + Math.abs(a[1] - b[1]);
    }

    static long[] least(long n, long d) {
        for (long i = Math.max(n, d); i > 1; i--) {
            if (n % i == 0 && d % i == 0) return new long[] {n / i, d / i};
        }
        return new long[] {n, d};
    }

    /** The fewest WRONGS fewer: each KIND by each number, all together. */
    static int mend(Fair f, int g, int kind) {
        if (!f.offends(g)) return 0;
        if (kind == 6) return 999;
        int best = 999;
        int had = f.wrongs[g][kind];
        for (int less = 0; less <= had; less++) {
            f.wrongs[g][kind] = had - less;
            best = Math.min(best, less + mend(f, g, kind + 1));
        }
        f.wrongs[g][kind] = had;
        return best;
    }

    /** How many PLACES are quiet, and the nearest. */
    static int[] quiet(Fair f) {
        int many = 0;
        int where = NONE;
        int near = 99;
        for (int p = 0; p < 100; p++) {
            Fair c = f.copy();
            c.stand = new int[] {p / 10, p % 10};
            if (!c.quiet()) continue;
            many++;
            if (far(c.stand, f.stand) < near) {
                near = far(c.stand, f.stand);
                where = p;
            }
        }
        return new int[] {many, where};
    }

    /** Least sum of questions by weight, and least of the most, over all ways of parting sets. */
    static int[] asking(Fair f) {
        int n = f.goers.size();
        int[] sum = new int[1 << n];
        int[] most = new int[1 << n];
        for (int s = 1; s < 1 << n; s++) {
            if (Integer.bitCount(s) == 1) continue;
            int weight = 0;
            for (int g = 0; g < n; g++) if ((s >> g & 1) != 0) weight += 1 + f.together(g);
            sum[s] = Integer.MAX_VALUE;
            most[s] = Integer.MAX_VALUE;
            for (int a = (s - 1) & s; a > 0; a = (a - 1) & s) {
                sum[s] = Math.min(sum[s], weight + sum[a] + sum[s ^ a]);
                most[s] = Math.min(most[s], 1 + Math.max(most[a], most[s ^ a]));
            }
        }
        int all = 0;
        for (int g = 0; g < n; g++) all += 1 + f.together(g);
        long[] mean = least(sum[(1 << n) - 1], all);
        return new int[] {(int) mean[0], (int) mean[1], most[(1 << n) - 1]};
    }

    static int kinds(Fair f, int set) {
        int kinds = 0;
        for (int c = 0; c < f.confessions.size(); c++) if ((set >> c & 1) != 0) kinds |= f.confessions.get(c)[0];
        return kinds;
    }

    static int price(Fair f, int set) {
        int price = 0;
        for (int c = 0; c < f.confessions.size(); c++) if ((set >> c & 1) != 0) price += f.confessions.get(c)[1];
        return price;
    }

    static int confess(Fair f) {
        int best = NONE;
        for (int set = 0; set < 1 << f.confessions.size(); set++) {
            boolean all = true;
            for (int[] m : f.minds) {
                for (int g = 0; g < f.goers.size(); g++) {
                    if (f.wrongs[g][m[0]] > 0 && (kinds(f, set) >> m[0] & 1) == 0) all = false;
                }
            }
            if (all && (best == NONE || price(f, set) < price(f, best))) best = set;
        }
        return best;
    }

    static int purse(Fair f, int p) {
        int best = 0;
        for (int set = 0; set < 1 << f.confessions.size(); set++) {
            if (price(f, set) <= p && Integer.bitCount(kinds(f, set)) > Integer.bitCount(kinds(f, best))) best = set;
        }
        return best;
    }

    /** All rows of TOWNS, none twice, in the order of their numbers. */
    static void rows(int towns, List<Integer> row, List<List<Integer>> all) {
        all.add(new ArrayList<>(row));
        for (int t = 0; t < towns; t++) {
            if (row.contains(t)) continue;
            row.add(t);
            rows(towns, row, all);
            row.remove(row.size() - 1);
        }
    }

    static int pays(Fair f, List<Integer> row) {
        int sum = 0;
        int[] at = f.stand;
        for (int t : row) {
            int[] town = f.towns.get(t);
            sum += town[2] * town[3] - 10 * far(at, town);
            at = town;
        }
        return sum;
    }

    static List<Integer> route(Fair f) {
        List<List<Integer>> all = new ArrayList<>();
        rows(f.towns.size(), new ArrayList<>(), all);
        List<Integer> best = all.get(0);
        for (List<Integer> row : all) {
            int more = pays(f, row) - pays(f, best);
            if (more > 0 || more == 0 && row.size() < best.size()) best = row;
        }
        return best;
    }

    static int length(Fair f, List<Integer> row) {
        int sum = 0;
        int[] at = f.stand;
        for (int t : row) {
            sum += far(at, f.towns.get(t));
            at = f.towns.get(t);
        }
        return sum + far(at, f.stand);
    }

    static List<Integer> round(Fair f) {
        List<List<Integer>> all = new ArrayList<>();
        rows(f.towns.size(), new ArrayList<>(), all);
        List<Integer> best = null;
        for (List<Integer> row : all) {
            if (row.size() == f.towns.size() && (best == null || length(f, row) < length(f, best))) best = row;
        }
        return best;
    }

    /** The number in the end, and what is done first. */
    static int[] turns(Fair f, int turn, int n) {
        if (turn == n) return new int[] {Integer.bitCount(f.offenders()), NONE};
        int best = 0;
        int first = NONE;
        for (int g = 0; g <= 8; g++) {
            if (g < 8 && g >= f.goers.size()) continue;
            Fair c = f.copy();
            if (g < 8 && turn % 2 == 0) c.wrongs[g] = new int[6];
            if (g < 8 && turn % 2 == 1) c.goers.set(g, f.stand.clone());
            int then = turns(c, turn + 1, n)[0];
            if (first == NONE || (turn % 2 == 0 ? then < best : then > best)) {
                best = then;
                first = g;
            }
        }
        return new int[] {best, first};
    }

    static int tree(Fair f) {
        List<int[]> places = new ArrayList<>(f.goers);
        places.add(f.stand);
        int[] group = new int[places.size()];
        for (int i = 0; i < group.length; i++) group[i] = i;
        int sum = 0;
        for (int d = 0; d <= 18; d++) {
            for (int a = 0; a < group.length; a++) {
                for (int b = 0; b < a; b++) {
                    if (far(places.get(a), places.get(b)) != d || group[a] == group[b]) continue;
                    sum += d;
                    int old = group[a];
                    for (int i = 0; i < group.length; i++) if (group[i] == old) group[i] = group[b];
                }
            }
        }
        return sum;
    }

    static int[] walk(Fair f, int g) {
        int best = NONE;
        int near = NONE;
        for (int d = 0; d <= 18 && best == NONE; d++) {
            for (int p = 0; p < 100 && best == NONE; p++) {
                Fair c = f.copy();
                c.goers.set(g, new int[] {p / 10, p % 10});
                if (far(c.goers.get(g), f.goers.get(g)) == d && !c.offends(g)) {
                    best = p;
                    near = d;
                }
            }
        }
        return new int[] {near, best};
    }

    static Fair without(Fair f, int minds) {
        Fair c = f.copy();
        c.minds.clear();
        for (int m = 0; m < f.minds.size(); m++) if ((minds >> m & 1) == 0) c.minds.add(f.minds.get(m));
        return c;
    }

    static int forget(Fair f) {
        for (int n = 0; n <= 6; n++) {
            for (int set = 0; set < 1 << f.minds.size(); set++) {
                if (Integer.bitCount(set) == n && without(f, set).quiet()) return set;
            }
        }
        return NONE;
    }

    static int idle(Fair f) {
        int set = 0;
        for (int m = 0; m < f.minds.size(); m++) if (without(f, 1 << m).offenders() == f.offenders()) set |= 1 << m;
        return set;
    }

    /** BROAD and how many. */
    static int[] broad(Fair f) {
        int[] best = {NONE, 0};
        for (int m = 0; m < f.minds.size(); m++) {
            int many = Integer.bitCount(without(f, 63 ^ 1 << m).offenders());
            if (best[0] == NONE || many > best[1]) best = new int[] {m, many};
        }
        return best;
    }

    static boolean over(Fair f, int a, int b) {
        boolean more = false;
        for (int k = 0; k < 6; k++) {
            if (f.wrongs[a][k] < f.wrongs[b][k]) return false;
            if (f.wrongs[a][k] > f.wrongs[b][k]) more = true;
        }
        return more;
    }

    static List<Integer> ladder(Fair f, List<Integer> row) {
        List<Integer> best = new ArrayList<>(row);
        for (int g = 0; g < f.goers.size(); g++) {
            if (row.isEmpty() || over(f, g, row.get(row.size() - 1))) {
                row.add(g);
                List<Integer> then = ladder(f, row);
                row.remove(row.size() - 1);
                if (then.size() > best.size()) best = then;
            }
        }
        return best;
    }

    static int grace(Fair f) {
        for (int d = 0; ; d++) {
            Fair c = f.copy();
            for (int[] m : c.minds) m[2] += d;
            if (c.quiet()) return d;
        }
    }

    static int deaf(Fair f) {
        for (int d = 0; ; d++) {
            Fair c = f.copy();
            for (int[] m : c.minds) m[1] -= d;
            if (c.quiet()) return d;
        }
    }

    static boolean plays(Fair f, int tune) {
        return f.quiet() && (f.slant == 0 || tune % f.slant != 0);
    }

    static long[] calm(Fair f, int p) {
        int n = f.goers.size();
        long sum = 0;
        for (int set = 0; set < 1 << n; set++) {
            long weight = 1;
            for (int g = 0; g < n; g++) weight *= (set >> g & 1) != 0 ? p : 10 - p;
            if ((set & f.offenders()) == 0) sum += weight;
        }
        long all = 1;
        for (int g = 0; g < n; g++) all *= 10;
        return new long[] {sum, all};
    }

    static long[] guess(Fair f, int n) {
        int good = 0;
        int all = 0;
        for (int set = 0; set < 1 << f.goers.size(); set++) {
            if (Integer.bitCount(set) != n) continue;
            all++;
            if ((f.offenders() & ~set) == 0) good++;
        }
        return least(good, all);
    }

    /** A DAY as it goes: what state() and after() ask for. */
    static final class Run {
        Fair f;
        List<Integer> played = new ArrayList<>();
        int asked = 0;
        int found = 0;
        int asks = 0;
        int mended = 0;
        int done = 0;
        int far = 0;

        Run(Fair told) {
            f = told.copy();
        }

        boolean act(int[] d) {
            if (d[0] == 0) {
                played.add(plays(f, played.size() + 1) ? 1 : 0);
                return true;
            }
            if (d[0] == 1) {
                if (f.slant == 0) return false;
                f.slant = 0;
                return true;
            }
            int g = d[1];
            if (g >= f.goers.size()) return false;
            if (d[0] == 2) {
                asks++;
                asked |= 1 << g;
                if (f.offends(g)) found |= 1 << g;
            } else if (d[0] == 3) {
                int[] to = {d[2], d[3]};
                far = Math.max(far, far(f.goers.get(g), to));
                f.goers.set(g, to);
            } else if (d[0] == 4) {
                if (f.wrongs[g][d[2]] < d[3]) return false;
                f.wrongs[g][d[2]] -= d[3];
                mended += d[3];
            } else {
                if (f.wrongs[g][d[2]] + d[3] > 9) return false;
                f.wrongs[g][d[2]] += d[3];
                done += d[3];
            }
            return true;
        }

        int state(int what) {
            int n = f.goers.size();
            if (what == 0) return played.size();
            if (what == 1) return (int) played.stream().filter(p -> p == 0).count();
            if (what == 2) return f.slant;
            if (what == 3) return f.offenders();
            if (what == 4) return asked;
            if (what == 5) return found;
            if (what == 6) return played.isEmpty() ? NONE : 1 - played.get(played.size() - 1);
            for (int g = 0; g < n; g++) {
                if (what == 10 + g) return f.goers.get(g)[0];
                if (what == 20 + g) return f.goers.get(g)[1];
                for (int k = 0; k < 6; k++) if (what == 100 + 10 * g + k) return f.wrongs[g][k];
            }
            return -2;
        }

        int after(int what) {
            if (what == 0) return played.contains(0) ? played.indexOf(0) + 1 : NONE;
            if (what == 1) {
                int most = 0;
                for (String s : played.toString().replaceAll("[^01]", "").split("0")) most = Math.max(most, s.length());
                return most;
            }
            return what == 2 ? mended : what == 3 ? done : what == 4 ? asks : what == 5 ? far : -2;
        }
    }

    private long x;

    private int below(int n) {
        x = (x * 1103515245L + 12345L) & 0xffffffffL;
        return (int) ((x >> 16) % n);
    }

    static Run drawn(Fair f, int seed, int n) {
        Naive lot = new Naive();
        lot.x = seed & 0xffffffffL;
        Run r = new Run(f);
        for (int i = 0; i < n; i++) {
            int what = lot.below(10);
            if (what <= 2) r.act(new int[] {0});
            if (what == 9) r.act(new int[] {1});
            if (what <= 2 || what == 9 || f.goers.isEmpty()) continue;
            int g = lot.below(f.goers.size());
            if (what == 8) r.act(new int[] {2, g});
            if (what == 3 || what == 4) r.act(new int[] {3, g, lot.below(10), lot.below(10)});
            if (what >= 5 && what <= 7) r.act(new int[] {what == 5 ? 4 : 5, g, lot.below(6), 1 + lot.below(3)});
        }
        return r;
    }

    /** HEARTS that fit FACTS ({1 stopped or 0 played, KINDS}). */
    static List<Integer> fit(List<int[]> facts, int lies) {
        List<Integer> fit = new ArrayList<>();
        for (int h = 0; h < 64; h++) {
            int wrong = 0;
            for (int[] fact : facts) if (((h & fact[1]) != 0) != (fact[0] == 1)) wrong++;
            if (wrong <= lies) fit.add(h);
        }
        return fit;
    }

    static int stops(List<Integer> hearts, int kinds) {
        return (int) hearts.stream().filter(h -> (h & kinds) != 0).count();
    }
}
