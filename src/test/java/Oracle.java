import java.util.ArrayList;
import java.util.Arrays;
import java.util.HashSet;
import java.util.List;
import java.util.Random;
import java.util.Set;
import java.util.TreeMap;
import java.util.TreeSet;

/** A second answer to what is asked of a HOUSE, by plain search through all that may be. */
final class Oracle {
    final List<int[]> pieces = new ArrayList<>();
    final List<int[]> secrets = new ArrayList<>();
    final List<Set<Integer>> knows = new ArrayList<>();
    final List<int[]> links = new ArrayList<>();

    static Oracle byChance(Random random, int mostPieces, int mostSecrets) {
        Oracle o = new Oracle();
        int p = random.nextInt(mostPieces + 1);
        int s = random.nextInt(mostSecrets + 1);
        int heaviest = 1 + random.nextInt(30);
        int mostWear = random.nextInt(10);
        for (int i = 0; i < p; i++) {
            o.pieces.add(new int[] {random.nextInt(4), random.nextInt(mostWear + 1)});
            o.knows.add(new TreeSet<>());
        }
        for (int i = 0; i < s; i++) {
            o.secrets.add(new int[] {random.nextInt(4), 1 + random.nextInt(heaviest)});
        }
        for (int i = random.nextInt(20); i > 0 && p > 0 && s > 0; i--) {
            o.knows.get(random.nextInt(p)).add(random.nextInt(s));
        }
        for (int i = random.nextInt(9); i > 0 && s > 2; i--) {
            List<Integer> three = new ArrayList<>();
            while (three.size() < 3) {
                int one = random.nextInt(s);
                if (!three.contains(one)) {
                    three.add(one);
                }
            }
            o.links.add(new int[] {three.get(0), three.get(1), three.get(2)});
        }
        return o;
    }

    String text() {
        String[] kinds = {"love", "debt", "death", "will"};
        StringBuilder text = new StringBuilder();
        for (int[] piece : pieces) {
            text.append("piece ").append(kinds[piece[0]]).append(' ').append(piece[1]).append(';');
        }
        for (int[] link : links) {
            text.append("link ").append(link[0]).append(' ').append(link[1]).append('\n').append(link[2]).append(';');
        }
        for (int[] secret : secrets) {
            text.append("secret ").append(kinds[secret[0]]).append(secret[1]).append(';');
        }
        for (int p = 0; p < pieces.size(); p++) {
            for (int s : knows.get(p)) {
                text.append("knows").append(p).append(' ').append(s).append(';');
            }
        }
        return text.toString();
    }

    int secretSets() {
        return (int) Math.pow(2, secrets.size());
    }

    int pieceSets() {
        return (int) Math.pow(2, pieces.size());
    }

    static Set<Integer> setOf(int bits) {
        Set<Integer> set = new TreeSet<>();
        for (int i = 0; i < 31; i++) {
            if ((bits & 1 << i) != 0) {
                set.add(i);
            }
        }
        return set;
    }

    static int bitsOf(Set<Integer> set) {
        int bits = 0;
        for (int i : set) {
            bits += 1 << i;
        }
        return bits;
    }

    static int worth(int kind, int weight, int taste, boolean known) {
        int worth = weight;
        if (kind == taste) {
            worth = worth + worth;
        }
        if (known) {
            worth = worth / 2;
        }
        return worth;
    }

    int worth(int s, int p) {
        return worth(secrets.get(s)[0], secrets.get(s)[1], pieces.get(p)[0], knows.get(p).contains(s));
    }

    int weigh(Set<Integer> some) {
        int sum = 0;
        for (int s : some) {
            sum += secrets.get(s)[1];
        }
        return sum;
    }

    static Set<Integer> comes(Set<Integer> some, List<int[]> by) {
        Set<Integer> known = new HashSet<>(some);
        boolean more = true;
        while (more) {
            more = false;
            for (int[] link : by) {
                if (known.contains(link[0]) && known.contains(link[1]) && known.add(link[2])) {
                    more = true;
                }
            }
        }
        return known;
    }

    Set<Integer> comes(Set<Integer> some) {
        return comes(some, links);
    }

    Set<Integer> comesOfAllBut(int bits) {
        return comes(setOf(secretSets() - 1 & ~bits));
    }

    /** The least of numbers by (first, size, number), each given as such a row. */
    private static boolean ahead(int[] one, int[] other) {
        return other == null || Arrays.compare(one, other) < 0;
    }

    int keep(int secret) {
        int[] best = null;
        for (int bits = 0; bits < secretSets(); bits++) {
            int[] row = {setOf(bits).size(), bits};
            if (!comesOfAllBut(bits).contains(secret) && ahead(row, best)) {
                best = row;
            }
        }
        return best == null ? -1 : best[1];
    }

    int find(int secret) {
        int[] best = null;
        for (int bits = 0; bits < secretSets(); bits++) {
            int[] row = {setOf(bits).size(), bits};
            if (!setOf(bits).contains(secret) && comes(setOf(bits)).contains(secret) && ahead(row, best)) {
                best = row;
            }
        }
        return best == null ? -1 : best[1];
    }

    /** {WEIGHT, PIECES} of THEFT of n of all but the guarded ones. */
    int[] theft(int n, Set<Integer> guards) {
        int[] best = null;
        for (int bits = 0; bits < pieceSets(); bits++) {
            Set<Integer> thieves = setOf(bits);
            Set<Integer> got = new HashSet<>();
            boolean open = true;
            for (int p : thieves) {
                got.addAll(knows.get(p));
                open &= !guards.contains(p);
            }
            int[] row = {-weigh(comes(got)), thieves.size(), bits};
            if (open && thieves.size() <= n && ahead(row, best)) {
                best = row;
            }
        }
        return new int[] {-best[0], best[2]};
    }

    int[] guarded(int g, int n) {
        int[] best = null;
        for (int bits = 0; bits < pieceSets(); bits++) {
            Set<Integer> guards = setOf(bits);
            if (guards.size() <= g) {
                int[] row = {theft(n, guards)[0], guards.size(), bits};
                if (ahead(row, best)) {
                    best = row;
                }
            }
        }
        return new int[] {best[0], best[2]};
    }

    int[] cut(int n) {
        int[] best = null;
        int all = weigh(setOf(secretSets() - 1));
        for (int bits = 0; bits < secretSets(); bits++) {
            int[] row = {weigh(comesOfAllBut(bits)) - all, setOf(bits).size(), bits};
            if (row[1] <= n && ahead(row, best)) {
                best = row;
            }
        }
        return new int[] {-best[0], best[2]};
    }

    int[] heirs() {
        int[] best = null;
        for (int bits = 0; bits < pieceSets(); bits++) {
            int one = 0;
            int other = 0;
            for (int p = 0; p < pieces.size(); p++) {
                if (setOf(bits).contains(p)) {
                    one += weigh(knows.get(p));
                } else {
                    other += weigh(knows.get(p));
                }
            }
            int[] row = {Math.abs(one - other), bits};
            if (ahead(row, best)) {
                best = row;
            }
        }
        return new int[] {best[1], best[0]};
    }

    private static long[] leastTerms(long n, long d) {
        for (long by = d; by > 1; by--) {
            if (n % by == 0 && d % by == 0) {
                return leastTerms(n / by, d / by);
            }
        }
        return new long[] {n, d};
    }

    long[] hidden(int secret, int n) {
        int hidden = 0;
        int sets = 0;
        for (int bits = 0; bits < secretSets(); bits++) {
            if (setOf(bits).size() == n) {
                sets++;
                hidden += comes(setOf(bits)).contains(secret) ? 0 : 1;
            }
        }
        return leastTerms(hidden, sets);
    }

    long[] leaks(int n) {
        long weight = 0;
        int sets = 0;
        for (int bits = 0; bits < secretSets(); bits++) {
            if (setOf(bits).size() == n) {
                sets++;
                weight += weigh(comes(setOf(bits)));
            }
        }
        return leastTerms(weight, sets);
    }

    /** The first row of evenings, in as few as can be: null, if a SECRET is too heavy. */
    int[] evenings(int most) {
        for (int[] secret : secrets) {
            if (secret[1] > most) {
                return null;
            }
        }
        for (int many = 0; many <= secrets.size(); many++) {
            int[] row = new int[secrets.size()];
            if (fill(row, new int[many], 0, most)) {
                return row;
            }
        }
        return null;
    }

    private boolean fill(int[] row, int[] loads, int s, int most) {
        if (s == row.length) {
            return true;
        }
        for (int e = 0; e < loads.length; e++) {
            row[s] = e;
            loads[e] += secrets.get(s)[1];
            if (loads[e] <= most && fill(row, loads, s + 1, most)) {
                return true;
            }
            loads[e] -= secrets.get(s)[1];
        }
        return false;
    }

    /** By hours, one at a time, as long as there is SHINE of light or more: 60 at most. */
    static int hours(int shine, int wear, int light) {
        int hours = 0;
        for (int left = shine; left >= light && hours < 60; left -= wear) {
            hours++;
        }
        return hours;
    }

    int shoneBy(int code, int p) {
        int[] piece = pieces.get(p);
        return hours(worth(code / 30, code % 30 + 1, piece[0], false), piece[1], 1);
    }

    List<Integer> fits(List<int[]> facts) {
        List<Integer> codes = new ArrayList<>();
        for (int code = 0; code < 120; code++) {
            boolean fits = true;
            for (int[] fact : facts) {
                fits &= shoneBy(code, fact[0]) == fact[1];
            }
            if (fits) {
                codes.add(code);
            }
        }
        return codes;
    }

    int ask(List<Integer> codes) {
        int[] best = null;
        for (int p = 0; p < pieces.size() && !codes.isEmpty(); p++) {
            TreeMap<Integer, Integer> alike = new TreeMap<>();
            for (int code : codes) {
                alike.merge(shoneBy(code, p), 1, Integer::sum);
            }
            int[] row = {alike.values().stream().max(Integer::compare).get(), p};
            if (ahead(row, best)) {
                best = row;
            }
        }
        return best == null ? -1 : best[1];
    }

    int lit(int light) {
        int sum = 0;
        for (int s = 0; s < secrets.size(); s++) {
            int most = 0;
            for (int p = 0; p < pieces.size(); p++) {
                most = Math.max(most, hours(worth(s, p), pieces.get(p)[1], light));
            }
            sum += most;
        }
        return sum;
    }

    int[] dusky(int s) {
        int[] best = null;
        for (int p = 0; p < pieces.size(); p++) {
            for (int q = p + 1; q < pieces.size(); q++) {
                int both = Math.min(hours(worth(s, p) / 2, pieces.get(p)[1], 1),
                        hours(worth(s, q) / 2, pieces.get(q)[1], 1));
                int[] row = {-both, 10 * p + q};
                if (ahead(row, best)) {
                    best = row;
                }
            }
        }
        return best == null ? new int[] {-1, -1} : new int[] {best[1], -best[0]};
    }

    int[] lasting(int p, int n) {
        int[] best = null;
        for (int s = 0; s < secrets.size(); s++) {
            int shine = worth(s, p);
            for (int hour = 0; hour < n; hour++) {
                shine = Math.max(0, shine - pieces.get(p)[1]);
            }
            int[] row = {-shine, s};
            if (ahead(row, best)) {
                best = row;
            }
        }
        return best == null ? new int[] {-1, -1} : new int[] {best[1], -best[0]};
    }

    int[] fitter() {
        int[] best = null;
        for (int p = 0; p < pieces.size(); p++) {
            int taste = pieces.get(p)[0];
            for (int kind = 0; kind < 4; kind++) {
                pieces.get(p)[0] = kind;
                int sum = 0;
                for (int q = 0; q < pieces.size(); q++) {
                    for (int s = 0; s < secrets.size(); s++) {
                        sum += worth(s, q);
                    }
                }
                int[] row = {-sum, 10 * p + kind};
                if (ahead(row, best)) {
                    best = row;
                }
            }
            pieces.get(p)[0] = taste;
        }
        return best == null ? new int[] {-1, -1} : new int[] {best[1], -best[0]};
    }

    int spread(int what) {
        int bits = 0;
        for (int s = 0; s < secrets.size(); s++) {
            int many = 0;
            for (Set<Integer> known : knows) {
                many += known.contains(s) ? 1 : 0;
            }
            boolean in = what == 0 ? many == pieces.size() : many == what - 1;
            bits += in ? 1 << s : 0;
        }
        return bits;
    }

    int depth(Set<Integer> some, int secret) {
        Set<Integer> known = new HashSet<>(some);
        for (int round = 0; round < 20; round++) {
            if (known.contains(secret)) {
                return round;
            }
            Set<Integer> next = new HashSet<>(known);
            for (int[] link : links) {
                if (known.contains(link[0]) && known.contains(link[1])) {
                    next.add(link[2]);
                }
            }
            known = next;
        }
        return -1;
    }

    int spare() {
        int bits = 0;
        for (int l = 0; l < links.size(); l++) {
            List<int[]> others = new ArrayList<>(links);
            others.remove(l);
            boolean same = true;
            for (int set = 0; set < secretSets() && same; set++) {
                same = comes(setOf(set)).equals(comes(setOf(set), others));
            }
            bits += same ? 1 << l : 0;
        }
        return bits;
    }

    int unlike(Oracle other) {
        int sum = 0;
        for (int s = 0; s < secrets.size() && s < other.secrets.size(); s++) {
            for (int p = 0; p < pieces.size() && p < other.pieces.size(); p++) {
                sum += worth(s, p) != other.worth(s, p) ? 1 : 0;
            }
        }
        return sum;
    }

    /** The best row of SECRETS for DINNERS, each {HOUR, PIECE, LIGHT}: null, if not all can be SERVED. */
    int[] served(List<int[]> dinners) {
        int[][] best = new int[1][];
        serve(dinners, 0, new int[pieces.size()], new int[dinners.size()], best);
        return best[0];
    }

    private static int toldIn(int[] row) {
        int told = 0;
        for (int s : row) {
            told += s < 10 ? 1 : 0;
        }
        return told;
    }

    private void serve(List<int[]> dinners, int k, int[] shine, int[] row, int[][] best) {
        if (k == dinners.size()) {
            if (best[0] == null || toldIn(row) < toldIn(best[0])
                    || toldIn(row) == toldIn(best[0]) && Arrays.compare(row, best[0]) < 0) {
                best[0] = row.clone();
            }
            return;
        }
        int[] dinner = dinners.get(k);
        int[] worn = shine.clone();
        for (int hour = k == 0 ? dinner[0] : dinners.get(k - 1)[0]; hour < dinner[0]; hour++) {
            for (int p = 0; p < worn.length; p++) {
                worn[p] = Math.max(0, worn[p] - pieces.get(p)[1]);
            }
        }
        for (int s = 0; s <= 10; s++) {
            int[] now = worn.clone();
            if (s < 10) {
                if (s >= secrets.size() || Arrays.stream(row, 0, k).boxed().toList().contains(s)) {
                    continue;
                }
                Arrays.fill(now, 0);
                now[dinner[1]] = worth(s, dinner[1]);
            }
            if (now[dinner[1]] >= dinner[2]) {
                row[k] = s;
                serve(dinners, k + 1, now, row, best);
            }
        }
    }
}
