import java.util.ArrayList;
import java.util.List;
import java.util.Random;
import java.util.Set;
import java.util.TreeSet;

/** Houses, months, dinners and logs by chance: each answer held against a plain search. */
public final class OracleTest {
    private static final int NONE = TarnishTurns.NONE;
    private static final Kit KIT = new Kit();
    private static final Random RANDOM = new Random(20261118);

    private static void due(String call, long got, long want) {
        KIT.due(call, got, want);
    }

    private static void sets(Oracle o) {
        String text = o.text();
        TarnishTurns x = Kit.with(text, null, null, null);
        for (int i = 0; i < 12; i++) {
            int bits = RANDOM.nextInt(o.secretSets());
            due("comes " + bits + " " + text, x.comes(0, bits), Oracle.bitsOf(o.comes(Oracle.setOf(bits))));
            for (int s = 0; s < o.secrets.size(); s++) {
                due("depth " + bits + " " + s + " " + text, x.depth(0, bits, s), o.depth(Oracle.setOf(bits), s));
            }
        }
        for (int s = 0; s < o.secrets.size(); s++) {
            due("keep " + s + " " + text, x.keep(0, s, false), o.keep(s));
            due("find " + s + " " + text, x.keep(0, s, true), o.find(s));
        }
        for (int n = 0; n <= o.secrets.size(); n++) {
            long[] leaks = o.leaks(n);
            due("leaks " + n + " " + text, x.leaks(0, n, false), leaks[0]);
            due("leaks under " + n + " " + text, x.leaks(0, n, true), leaks[1]);
            for (int s = 0; s < o.secrets.size(); s++) {
                long[] hidden = o.hidden(s, n);
                due("hidden " + s + " " + n + " " + text, x.hidden(0, s, n, false), hidden[0]);
                due("hidden under " + s + " " + n + " " + text, x.hidden(0, s, n, true), hidden[1]);
            }
        }
        for (int n = 0; n <= 3; n++) {
            due("cut " + n + " " + text, x.cut(0, n, false), o.cut(n)[0]);
            due("cut which " + n + " " + text, x.cut(0, n, true), o.cut(n)[1]);
        }
        due("spare " + text, x.spare(0), o.spare());
    }

    private static void thefts(Oracle o) {
        String text = o.text();
        TarnishTurns x = Kit.with(text, null, null, null);
        for (int n = 0; n <= 8; n++) {
            int[] theft = o.theft(n, new TreeSet<>());
            due("theft " + n + " " + text, x.theft(0, n, false), theft[0]);
            due("theft of " + n + " " + text, x.theft(0, n, true), theft[1]);
            int g = RANDOM.nextInt(9);
            int[] guarded = o.guarded(g, n);
            due("guarded " + g + " " + n + " " + text, x.guarded(0, g, n, false), guarded[0]);
            due("guards " + g + " " + n + " " + text, x.guarded(0, g, n, true), guarded[1]);
        }
        due("heirs " + text, x.heirs(0, false), o.heirs()[0]);
        due("heirs by " + text, x.heirs(0, true), o.heirs()[1]);
        for (int what = 0; what < 3; what++) {
            due("spread " + what + " " + text, x.spread(0, what), o.spread(what));
        }
    }

    private static void evenings(Oracle o) {
        String text = o.text();
        TarnishTurns x = Kit.with(text, null, null, null);
        for (int i = 0; i < 8; i++) {
            int most = i == 0 ? 99 : 1 + RANDOM.nextInt(60);
            int[] row = o.evenings(most);
            int many = row == null ? NONE : 0;
            for (int s = 0; s < o.secrets.size(); s++) {
                int due = row == null ? NONE : row[s];
                many = Math.max(many, due + (row == null ? 0 : 1));
                due("evening " + most + " " + s + " " + text, x.evening(0, most, s), due);
            }
            due("evenings " + most + " " + text, x.evenings(0, most), many);
        }
    }

    private static void shines(Oracle o, Oracle other) {
        String text = o.text();
        TarnishTurns x = Kit.with(text, null, null, null);
        for (int light = 1; light <= 60; light++) {
            due("lit " + light + " " + text, x.lit(0, light), o.lit(light));
        }
        for (int s = 0; s < o.secrets.size(); s++) {
            due("dusky " + s + " " + text, x.dusky(0, s, false), o.dusky(s)[0]);
            due("dusky hours " + s + " " + text, x.dusky(0, s, true), o.dusky(s)[1]);
            for (int p = 0; p < o.pieces.size(); p++) {
                due("worth " + s + " " + p + " " + text, x.worth(0, s, p), o.worth(s, p));
            }
        }
        for (int p = 0; p < o.pieces.size(); p++) {
            for (int n = 0; n <= 60; n += 1 + RANDOM.nextInt(7)) {
                due("lasting " + p + " " + n + " " + text, x.lasting(0, p, n, false), o.lasting(p, n)[0]);
                due("lasting much " + p + " " + n + " " + text, x.lasting(0, p, n, true), o.lasting(p, n)[1]);
            }
        }
        due("fitter " + text, x.fitter(0, false), o.fitter()[0]);
        due("fitter much " + text, x.fitter(0, true), o.fitter()[1]);
        Kit.tell(x, 0, other.text());
        due("unlike " + text + " " + other.text(), x.unlike(0, 1), o.unlike(other));
        due("unlike back " + text + " " + other.text(), x.unlike(1, 0), o.unlike(other));
    }

    private static void logs(Oracle o) {
        List<int[]> facts = new ArrayList<>();
        int code = RANDOM.nextInt(120);
        for (int i = RANDOM.nextInt(4); i > 0 && !o.pieces.isEmpty(); i--) {
            int p = RANDOM.nextInt(o.pieces.size());
            facts.add(new int[] {p, RANDOM.nextInt(8) == 0 ? RANDOM.nextInt(61) : o.shoneBy(code, p)});
        }
        StringBuilder log = new StringBuilder();
        for (int[] fact : facts) {
            log.append("shone ").append(fact[0]).append(' ').append(fact[1]).append(" ;");
        }
        String text = o.text() + " / " + log;
        TarnishTurns x = Kit.with(o.text(), null, null, log.toString());
        List<Integer> codes = o.fits(facts);
        Set<Integer> kinds = new TreeSet<>();
        Set<Integer> weights = new TreeSet<>();
        for (int k = 0; k < codes.size(); k++) {
            kinds.add(codes.get(k) / 30);
            weights.add(codes.get(k) % 30 + 1);
            due("fit " + k + " " + text, x.fits(0, 0, 10 + k), codes.get(k));
            for (int p = 0; p < o.pieces.size() && k % 7 == 0; p++) {
                due("would " + k + " " + p + " " + text, x.would(0, 0, k, p), o.shoneBy(codes.get(k), p));
            }
        }
        due("fits behind " + text, x.fits(0, 0, 10 + codes.size()), -2);
        due("fits " + text, x.fits(0, 0, 0), codes.size());
        due("kind " + text, x.fits(0, 0, 1), kinds.size() == 1 ? kinds.iterator().next() : NONE);
        due("weight " + text, x.fits(0, 0, 2), weights.size() == 1 ? weights.iterator().next() : NONE);
        int which = 0;
        for (int s = 0; s < o.secrets.size(); s++) {
            which += codes.contains(30 * o.secrets.get(s)[0] + o.secrets.get(s)[1] - 1) ? 1 << s : 0;
        }
        due("which " + text, x.fits(0, 0, 3), which);
        due("ask " + text, x.fits(0, 0, 4), o.ask(codes));
    }

    private static void dinners(Oracle o, int most) {
        if (o.pieces.isEmpty()) {
            return;
        }
        List<int[]> dinners = new ArrayList<>();
        StringBuilder told = new StringBuilder();
        int hour = 0;
        int table = 1 + RANDOM.nextInt(o.pieces.size());
        int light = 1 + RANDOM.nextInt(1 + RANDOM.nextInt(30));
        int pause = 1 + RANDOM.nextInt(4);
        for (int i = RANDOM.nextInt(most + 1); i > 0; i--) {
            hour = Math.min(60, hour + RANDOM.nextInt(pause));
            int[] dinner = {hour, RANDOM.nextInt(table), 1 + RANDOM.nextInt(light)};
            dinners.add(dinner);
            told.append("dinner ").append(hour).append(' ').append(dinner[1]).append(' ').append(dinner[2]).append(';');
        }
        String text = o.text() + " / " + told;
        TarnishTurns x = Kit.with(o.text(), null, told.toString(), null);
        int[] row = o.served(dinners);
        int fewest = row == null ? NONE : 0;
        for (int k = 0; k < dinners.size(); k++) {
            due("served " + k + " " + text, x.served(0, 0, k), row == null ? NONE : row[k]);
            fewest += row != null && row[k] < 10 ? 1 : 0;
        }
        due("served " + text, x.served(0, 0, NONE), fewest);
        int serves = dinners.size();
        while (serves > 0 && o.served(dinners.subList(0, serves)) == null) {
            serves--;
        }
        due("serves " + text, x.served(0, 0, -2), serves);
    }

    private static void months(Oracle o) {
        List<int[]> deeds = new ArrayList<>();
        for (int i = RANDOM.nextInt(41); i > 0; i--) {
            deeds.add(OracleMonth.deedByChance(RANDOM, o));
        }
        String text = o.text() + " / " + OracleMonth.text(deeds);
        TarnishTurns x = Kit.with(o.text(), OracleMonth.text(deeds), null, null);
        OracleMonth month = new OracleMonth(o);
        int[] bright = new int[9];
        int dusked = NONE;
        int greatest = 0;
        int end = 0;
        for (int n = 0; n <= deeds.size(); n++) {
            if (n > 0 && !month.go(deeds.get(n - 1))) {
                break;
            }
            end = n;
            // An object answers 512 calls: a new one for each STATE.
            look(Kit.with(o.text(), OracleMonth.text(deeds), null, null), month, n, text);
            bright[month.bright() + 1]++;
            dusked = dusked == NONE && month.dusk() ? n : dusked;
            for (int shine : month.shine) {
                greatest = Math.max(greatest, shine);
            }
        }
        due("till " + text, x.till(0, 0), end);
        due("state behind " + text, x.state(0, 0, end + 1, 0), -2);
        int star = 0;
        for (int p = 1; p < 9; p++) {
            star = bright[p] > (star == 0 ? 0 : bright[star]) ? p : star;
        }
        due("star " + text, x.after(0, 0, 0), star - 1);
        due("dark " + text, x.after(0, 0, 1), bright[0]);
        due("dusked " + text, x.after(0, 0, 2), dusked);
        due("greatest " + text, x.after(0, 0, 3), greatest);
    }

    private static void look(TarnishTurns x, OracleMonth month, int n, String text) {
        for (int what = -1; what < 42; what++) {
            if (what < 10 || what % 10 < 9) {
                due("state " + n + " " + what + " " + text, x.state(0, 0, n, what), month.look(what));
            }
        }
    }

    private static void draws(Oracle o) {
        TarnishTurns x = Kit.with(o.text(), null, null, null);
        for (int i = 0; i < 4; i++) {
            int seed = RANDOM.nextInt();
            int n = RANDOM.nextInt(61);
            OracleMonth month = new OracleMonth(o);
            month.draw(seed, n);
            for (int what = -1; what < 42; what++) {
                due("drawn " + seed + " " + n + " " + what + " " + o.text(), x.drawn(0, seed, n, what),
                        month.look(what));
            }
        }
    }

    public static void main(String[] args) {
        for (int i = 0; i < 300; i++) {
            sets(Oracle.byChance(RANDOM, 2, i < 10 ? 10 : 6));
            thefts(Oracle.byChance(RANDOM, i < 10 ? 8 : 5, 8));
            evenings(Oracle.byChance(RANDOM, 1, i < 20 ? 10 : 8));
            shines(Oracle.byChance(RANDOM, 8, 10), Oracle.byChance(RANDOM, 8, 10));
            logs(Oracle.byChance(RANDOM, 8, 10));
            months(Oracle.byChance(RANDOM, 8, 10));
            draws(Oracle.byChance(RANDOM, 8, 10));
        }
        for (int i = 0; i < 12000; i++) {
            dinners(Oracle.byChance(RANDOM, 3, i < 10000 ? 5 : 8), i < 10000 ? 8 : 6);
        }
        KIT.finish();
    }
}
