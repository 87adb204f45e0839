import java.util.ArrayList;
import java.util.List;
import java.util.Random;
import java.util.Set;
import java.util.TreeSet;

/** A second way through a MONTH: who is told what, as sets and rows of its own. */
final class OracleMonth {
    private static final String[] VERBS = {"tell", "both", "polish", "steal", "back", "hour"};

    final Oracle house;
    final int[] shine;
    final int[] gloss;
    final List<Set<Integer>> knows = new ArrayList<>();
    final Set<Integer> stolen = new TreeSet<>();
    int hour = 0;
    int given = 0;

    OracleMonth(Oracle house) {
        this.house = house;
        shine = new int[house.pieces.size()];
        gloss = new int[house.pieces.size()];
        for (Set<Integer> known : house.knows) {
            knows.add(new TreeSet<>(known));
        }
    }

    static int[] deedByChance(Random random, Oracle house) {
        int verb = random.nextInt(8);
        verb = verb > 5 ? 0 : verb;
        int wild = random.nextInt(30) == 0 ? 1 : 0;
        int secrets = Math.min(10, Math.max(1, house.secrets.size() + wild));
        int pieces = Math.min(8, Math.max(1, house.pieces.size() + wild));
        int s = random.nextInt(secrets);
        int p = random.nextInt(pieces);
        int q = (p + 1 + random.nextInt(7)) % 8;
        if (pieces > 1) {
            q = (p + 1 + random.nextInt(pieces - 1)) % pieces;
        }
        switch (verb) {
            case 0:
                return new int[] {0, s, p, -1};
            case 1:
                return new int[] {1, s, p, q};
            case 5:
                return new int[] {5, -1, -1, -1};
            default:
                return new int[] {verb, p, -1, -1};
        }
    }

    static String text(List<int[]> deeds) {
        StringBuilder text = new StringBuilder();
        for (int[] deed : deeds) {
            text.append(VERBS[deed[0]]);
            for (int i = 1; i < 4; i++) {
                if (deed[i] >= 0) {
                    text.append(' ').append(deed[i]);
                }
            }
            text.append(';');
        }
        return text.toString();
    }

    private boolean there(int p) {
        return p < house.pieces.size() && !stolen.contains(p);
    }

    private int worth(int s, int p) {
        return Oracle.worth(house.secrets.get(s)[0], house.secrets.get(s)[1], house.pieces.get(p)[0],
                knows.get(p).contains(s));
    }

    /** Does a DEED, if it can be. */
    boolean go(int[] deed) {
        int last = deed[0] == 0 ? 2 : 3;
        switch (deed[0]) {
            case 0:
            case 1:
                if (deed[1] >= house.secrets.size()) {
                    return false;
                }
                for (int i = 2; i <= last; i++) {
                    if (!there(deed[i])) {
                        return false;
                    }
                }
                if (deed[0] == 1 && deed[2] == deed[3]) {
                    return false;
                }
                int[] now = new int[shine.length];
                for (int i = 2; i <= last; i++) {
                    now[deed[i]] = worth(deed[1], deed[i]) / (last - 1);
                    given += now[deed[i]];
                    knows.get(deed[i]).add(deed[1]);
                }
                System.arraycopy(now, 0, shine, 0, now.length);
                return true;
            case 2:
                if (!there(deed[1])) {
                    return false;
                }
                for (int p = 0; p < gloss.length; p++) {
                    gloss[p] = p == deed[1] ? 5 : 0;
                }
                return true;
            case 3:
                if (!there(deed[1])) {
                    return false;
                }
                stolen.add(deed[1]);
                shine[deed[1]] = 0;
                gloss[deed[1]] = 0;
                return true;
            case 4:
                return stolen.remove(deed[1]);
            default:
                hour++;
                for (int p = 0; p < shine.length; p++) {
                    shine[p] = Math.max(0, shine[p] - house.pieces.get(p)[1]);
                    gloss[p] = 0;
                }
                return true;
        }
    }

    int bright() {
        int best = -1;
        for (int p = shine.length - 1; p >= 0; p--) {
            int both = shine[p] + gloss[p];
            if (both > 0 && (best < 0 || both >= shine[best] + gloss[best])) {
                best = p;
            }
        }
        return best;
    }

    boolean dusk() {
        int any = 0;
        for (int p = 0; p < shine.length; p++) {
            any += shine[p] > 0 || gloss[p] > 0 ? 1 : 0;
        }
        return any > 1;
    }

    int look(int what) {
        int p = what % 10;
        if (what >= 10) {
            if (p >= shine.length || what >= 40) {
                return -2;
            }
            return what < 20 ? shine[p] : what < 30 ? gloss[p] : Oracle.bitsOf(knows.get(p));
        }
        int[] all = {hour, bright(), dusk() ? 1 : 0, Oracle.bitsOf(stolen), given};
        return what >= 0 && what < 5 ? all[what] : -2;
    }

    /** DRAWN by a SEED, with whole numbers that know no sign. */
    void draw(int seed, int n) {
        long[] x = {seed & 0xffffffffL};
        int secrets = house.secrets.size();
        int pieces = house.pieces.size();
        for (int i = 0; i < n; i++) {
            int lot = below(x, 8);
            if (lot >= 4 && lot <= 6) {
                go(new int[] {5, -1, -1, -1});
            } else if (secrets == 0 || pieces == 0) {
                continue;
            } else if (lot < 2) {
                int s = below(x, secrets);
                go(new int[] {0, s, below(x, pieces), -1});
            } else if (lot == 2) {
                int s = below(x, secrets);
                int p = below(x, pieces);
                go(new int[] {1, s, p, (p + 1) % pieces});
            } else if (lot == 3) {
                go(new int[] {2, below(x, pieces), -1, -1});
            } else {
                int p = below(x, pieces);
                go(new int[] {stolen.contains(p) ? 4 : 3, p, -1, -1});
            }
        }
    }

    private static int below(long[] x, int n) {
        x[0] = (x[0] * 1103515245L + 12345L) % 4294967296L;
        return (int) (x[0] / 65536 % n);
    }
}
