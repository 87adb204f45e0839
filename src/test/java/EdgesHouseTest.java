/** Edges of what a HOUSE alone can say: each sentence of the document about sets, thefts, evenings, chances, SHINE. */
public final class EdgesHouseTest {
    private static final int NONE = TarnishTurns.NONE;
    private static final Kit KIT = new Kit();

    private static void due(String call, long got, long want) {
        KIT.due(call, got, want);
    }

    private static TarnishTurns home(String house) {
        return Kit.home(house);
    }

    /** SECRETS of love by their WEIGHTS. */
    private static String secrets(int... weights) {
        StringBuilder text = new StringBuilder();
        for (int weight : weights) {
            text.append("secret love ").append(weight).append(';');
        }
        return text.toString();
    }

    private static final String ONES = secrets(1, 1, 1, 1, 1, 1, 1, 1, 1, 1);
    private static final String STEPS = secrets(1, 2, 3, 4, 5, 6, 7, 8, 9, 10);
    private static final String THIRTIES = secrets(30, 30, 30, 30, 30, 30, 30, 30, 30, 30);
    private static final String EIGHT = Kit.times("piece love 1;", 8);

    /** Told last to first, so that one round finds one SECRET. */
    private static final String CHAIN = ONES + "link 7 8 9;link 6 7 8;link 5 6 7;link 4 5 6;link 3 4 5;link 2 3 4;"
            + "link 1 2 3;link 0 1 2;";

    private static void details() {
        KIT.of("Of a HOUSE, what 0: PIECES, 1: SECRETS, 2: LINKS");
        TarnishTurns empty = home("");
        TarnishTurns great = home(Kit.times("piece will 9;", 8) + THIRTIES + Kit.times("link 9 8 7;", 8) + "knows 7 9;"
                + "knows 7 0;");
        int[] most = {8, 10, 8};
        for (int what = 0; what < 3; what++) {
            due("without lines, " + what, empty.house(0, what), 0);
            due("as many as may be, " + what, great.house(0, what), most[what]);
        }
        KIT.of("10 + p, 20 + p, 30 + p: TASTE, WEAR, what a PIECE KNOWS (bits), 40 + s, 50 + s: KIND, WEIGHT of a SECRET, "
                + "60 + l, 70 + l, 80 + l: the SECRETS of a LINK, the third one last.");
        int[] lasts = {17, 27, 37, 49, 59, 67, 77, 87};
        int[] wants = {3, 9, 513, 0, 30, 9, 8, 7};
        int[] firsts = {10, 20, 30, 40, 50, 60, 70, 80};
        int[] firstWants = {3, 9, 0, 0, 30, 9, 8, 7};
        for (int i = 0; i < 8; i++) {
            due("the last, " + lasts[i], great.house(0, lasts[i]), wants[i]);
            due("the first, " + firsts[i], great.house(0, firsts[i]), firstWants[i]);
            due("of none, " + firsts[i], empty.house(0, firsts[i]), NONE);
        }
        StringBuilder all = new StringBuilder(ONES);
        for (int s = 0; s < 10; s++) {
            all.append("knows 0 ").append(s).append(';');
        }
        due("KNOWS all", home("piece love 1;" + all).house(0, 30), 1023);
    }

    private static void comes() {
        KIT.of("COMES of some SECRETS (bits): they, and all that LINKS make known of them, again and again.");
        TarnishTurns chain = home(CHAIN);
        due("of none", chain.comes(0, 0), 0);
        due("of one", chain.comes(0, 1), 1);
        due("of the last", chain.comes(0, 512), 512);
        due("of two", chain.comes(0, 3), 1023);
        due("of two in the midst", chain.comes(0, 48), 1008);
        due("of two apart", chain.comes(0, 5), 5);
        due("of all", chain.comes(0, 1023), 1023);
        due("not backwards", chain.comes(0, 768), 768);
        due("no LINKS", home(ONES).comes(0, 513), 513);
        due("in a ring", home(secrets(1, 1, 1) + "link 0 1 2;link 1 2 0;link 2 0 1;").comes(0, 6), 7);
        due("in a ring, of one", home(secrets(1, 1, 1) + "link 0 1 2;link 1 2 0;link 2 0 1;").comes(0, 4), 4);
        KIT.of("DEPTH of SECRETS (bits), a SECRET: behind how many rounds it COMES (0: it is one of them; in a round each "
                + "LINK makes known what it can by those known ahead of it).");
        for (int s = 0; s < 10; s++) {
            due("DEPTH of " + s, chain.depth(0, 3, s), s < 2 ? 0 : s - 1);
            due("DEPTH of " + s + ", one of them", chain.depth(0, 1023, s), 0);
            due("DEPTH of " + s + " of none", chain.depth(0, 0, s), NONE);
        }
        String forth = ONES + "link 0 1 2;link 1 2 3;link 2 3 4;link 3 4 5;link 4 5 6;link 5 6 7;link 6 7 8;link 7 8 9;";
        due("told first to last, as many rounds", home(forth).depth(0, 3, 9), 8);
        due("the shorter way", home(ONES + "link 0 1 2;link 1 2 3;link 0 1 3;").depth(0, 3, 3), 1);
    }

    private static void keeps() {
        KIT.of("KEEP a SECRET: the fewest SECRETS (bits; of several the least; itself, too) that are to be kept, so that it "
                + "is not in what COMES of all those that are not.");
        for (int s = 0; s < 10; s++) {
            due("without LINKS, itself " + s, home(ONES).keep(0, s, false), 1 << s);
        }
        due("one of two, the least", home(secrets(1, 1, 1) + "link 0 1 2;").keep(0, 2, false), 5);
        due("one of two, told the other way", home(secrets(1, 1, 1) + "link 1 0 2;").keep(0, 2, false), 5);
        due("the one of both", home(ONES + "link 0 9 2;link 9 1 2;").keep(0, 2, false), 516);
        due("the fewest, not the least", home(secrets(1, 1, 1, 1, 1) + "link 0 4 2;link 4 1 2;link 4 3 2;")
                .keep(0, 2, false), 20);
        due("what comes again is to be kept, too", home(secrets(1, 1, 1, 1) + "link 0 1 2;link 0 2 3;").keep(0, 3, false), 9);
        due("the chain's last", home(CHAIN).keep(0, 9, false), 512 + 128 + 32 + 8 + 2);
        due("one SECRET", home(secrets(1)).keep(0, 0, false), 1);
        KIT.of("FIND a SECRET: the fewest others (bits; of several the least) of which it COMES.");
        due("by none", home(ONES).keep(0, 9, true), NONE);
        due("one SECRET, by none", home(secrets(1)).keep(0, 0, true), NONE);
        due("by two", home(secrets(1, 1, 1) + "link 0 1 2;").keep(0, 2, true), 3);
        due("not of it", home(secrets(1, 1, 1) + "link 0 1 2;").keep(0, 0, true), NONE);
        due("of several the least", home(ONES + "link 9 8 2;link 3 4 2;").keep(0, 2, true), 24);
        due("of several the least, by bits", home(ONES + "link 0 9 2;link 3 4 2;").keep(0, 2, true), 24);
        due("the fewest: three", home(ONES + "link 0 1 2;link 2 3 4;").keep(0, 4, true), 12);
        due("the chain's last", home(CHAIN).keep(0, 9, true), 3);
        due("not by itself", home(secrets(1, 1, 1) + "link 1 2 0;link 0 1 2;").keep(0, 2, true), 3);
    }

    private static void thefts() {
        StringBuilder own = new StringBuilder(EIGHT + STEPS);
        for (int p = 0; p < 8; p++) {
            own.append("knows ").append(p).append(' ').append(p).append(';');
        }
        TarnishTurns steps = home(own.toString());
        KIT.of("THEFT of n, 0 .. 8: the most WEIGHT of SECRETS, each once, that n PIECES KNOW together, and what COMES of "
                + "them; which PIECES (bits; n at most, the fewest, of several the least).");
        int[] most = {0, 8, 15, 21, 26, 30, 33, 35, 36};
        for (int n = 0; n <= 8; n++) {
            due("THEFT of " + n, steps.theft(0, n, false), most[n]);
            due("THEFT of " + n + ", which", steps.theft(0, n, true), 256 - (1 << 8 - n));
            due("THEFT where nothing is known " + n, home(EIGHT + ONES).theft(0, n, true), 0);
            due("THEFT without PIECES " + n, home(ONES).theft(0, n, false), 0);
            due("THEFT of one PIECE " + n, home("piece love 1;secret love 30;knows 0 0;").theft(0, n, true), n == 0 ? 0 : 1);
        }
        TarnishTurns same = home(EIGHT + secrets(7) + "knows 3 0;knows 5 0;knows 7 0;");
        due("each once", same.theft(0, 8, false), 7);
        due("the fewest, of several the least", same.theft(0, 8, true), 8);
        TarnishTurns pair = home("piece love 1;piece love 1;piece love 1;" + secrets(5, 5, 10, 30)
                + "knows 0 0;knows 1 1;knows 2 2;link 0 1 3;");
        due("the most by one", pair.theft(0, 1, true), 4);
        due("the most by two, and what COMES", pair.theft(0, 2, false), 40);
        due("which two", pair.theft(0, 2, true), 3);
        due("the least of as many", home("piece love 1;piece love 1;piece love 1;" + secrets(5, 5) + "knows 2 0;knows 1 1;")
                .theft(0, 1, true), 2);
        due("the fewest, not the least", home("piece love 1;piece love 1;piece love 1;" + secrets(5, 5)
                + "knows 0 0;knows 1 1;knows 2 0;knows 2 1;").theft(0, 3, true), 4);
        guards(steps, same);
    }

    private static void guards(TarnishTurns steps, TarnishTurns same) {
        KIT.of("GUARDED of g, n, 0 .. 8: g PIECES at most are guarded, so that THEFT of n of the others gets least: "
                + "how much; which (bits; the fewest, of several the least).");
        for (int g = 0; g <= 8; g++) {
            due("GUARDED of " + g + ", 8", steps.guarded(0, g, 8, false), (8 - g) * (9 - g) / 2);
            due("GUARDED of " + g + ", 8, which", steps.guarded(0, g, 8, true), 256 - (1 << 8 - g));
            due("GUARDED of " + g + ", 1", steps.guarded(0, g, 1, false), 8 - g);
            due("GUARDED of " + g + ", 0", steps.guarded(0, g, 0, false), 0);
            due("GUARDED of " + g + ", 0, which", steps.guarded(0, g, 0, true), 0);
            due("GUARDED of " + g + " without PIECES", home("").guarded(0, g, 8, true), 0);
            due("GUARDED of " + g + ", one PIECE", home("piece love 1;secret love 9;knows 0 0;").guarded(0, g, 8, false),
                    g == 0 ? 9 : 0);
        }
        due("too few guards are none", same.guarded(0, 2, 1, true), 0);
        due("too few guards, how much", same.guarded(0, 2, 1, false), 7);
        due("as many guards as it takes", same.guarded(0, 3, 1, true), 168);
        due("no more guards than it takes", same.guarded(0, 8, 8, true), 168);
        due("of several the least", home("piece love 1;piece love 1;" + secrets(5, 5, 9) + "knows 0 0;knows 1 1;link 0 1 2;")
                .guarded(0, 1, 2, true), 1);
    }

    private static void evenings() {
        KIT.of("EVENINGS of a WEIGHT, 1 .. 99: the fewest evenings in which all SECRETS can be told, WEIGHTS of an evening's "
                + "together being that at most");
        int[] weights = {1, 2, 3, 4, 5, 9, 10, 11, 99};
        int[] ones = {10, 5, 4, 3, 2, 2, 1, 1, 1};
        for (int i = 0; i < weights.length; i++) {
            due("ten of 1, WEIGHT " + weights[i], home(ONES).evenings(0, weights[i]), ones[i]);
            due("no SECRETS, WEIGHT " + weights[i], home("").evenings(0, weights[i]), 0);
            due("no SECRETS, but a PIECE, WEIGHT " + weights[i], home("piece love 1;").evenings(0, weights[i]), 0);
        }
        due("ten of 30, WEIGHT 30", home(THIRTIES).evenings(0, 30), 10);
        due("ten of 30, WEIGHT 29", home(THIRTIES).evenings(0, 29), NONE);
        due("ten of 30, WEIGHT 59", home(THIRTIES).evenings(0, 59), 10);
        due("ten of 30, WEIGHT 60", home(THIRTIES).evenings(0, 60), 5);
        due("ten of 30, WEIGHT 89", home(THIRTIES).evenings(0, 89), 5);
        due("ten of 30, WEIGHT 90", home(THIRTIES).evenings(0, 90), 4);
        due("ten of 30, WEIGHT 99", home(THIRTIES).evenings(0, 99), 4);
        due("99 in all", home(secrets(30, 30, 30, 9)).evenings(0, 99), 1);
        due("100 in all", home(secrets(30, 30, 30, 10)).evenings(0, 99), 2);
        due("the lightest is too heavy", home(secrets(2, 30)).evenings(0, 1), NONE);
        due("the last is too heavy", home(secrets(1, 1, 6)).evenings(0, 5), NONE);
        due("the last is just not too heavy", home(secrets(1, 1, 6)).evenings(0, 6), 2);
        due("another WEIGHT without SECRETS, 0", home("").evenings(0, 0), NONE);
        due("another WEIGHT without SECRETS, 100", home("").evenings(0, 100), NONE);
        due("as few as can be, not the heaviest first", home(secrets(4, 4, 6, 6, 10)).evenings(0, 10), 3);
        KIT.of("EVENING of a WEIGHT, a SECRET: of a row of EVENINGS for all SECRETS, in as few as can be, the first row by "
                + "numbers: which evening it is told (from 0 on).");
        for (int s = 0; s < 10; s++) {
            due("ten of 1, WEIGHT 1, " + s, home(ONES).evening(0, 1, s), s);
            due("ten of 1, WEIGHT 9, " + s, home(ONES).evening(0, 9, s), s / 9);
            due("ten of 1, WEIGHT 10, " + s, home(ONES).evening(0, 10, s), 0);
            due("ten of 30, WEIGHT 30, " + s, home(THIRTIES).evening(0, 30, s), s);
            due("ten of 30, WEIGHT 99, " + s, home(THIRTIES).evening(0, 99, s), s / 3);
            due("ten of 30, WEIGHT 29, " + s, home(THIRTIES).evening(0, 29, s), NONE);
        }
        int[] few = {0, 1, 0, 1, 2};
        for (int s = 0; s < 5; s++) {
            due("as few as can be, " + s, home(secrets(4, 4, 6, 6, 10)).evening(0, 10, s), few[s]);
        }
        due("the last goes back to the first evening", home(secrets(5, 6, 5)).evening(0, 10, 2), 0);
        due("too heavy, asked for a light one", home(secrets(1, 1, 6)).evening(0, 5, 0), NONE);
    }

    private static void fraction(String call, long above, long below, long n, long d) {
        due(call + ", N", above, n);
        due(call + ", D", below, d);
    }

    private static void hidden(String house, int secret, int n, long above, long below) {
        TarnishTurns x = home(house);
        fraction("HIDDEN of " + secret + ", " + n, x.hidden(0, secret, n, false), x.hidden(0, secret, n, true), above, below);
    }

    private static void leaks(String house, int n, long above, long below) {
        TarnishTurns x = home(house);
        fraction("LEAKS of " + n, x.leaks(0, n, false), x.leaks(0, n, true), above, below);
    }

    private static void chances() {
        KIT.of("HIDDEN of a SECRET, n, 0 .. 10: n SECRETS slip, all sets of n alike: how likely it is not in what COMES of "
                + "them, a fraction in least terms.");
        long[][] free = {{1, 1}, {9, 10}, {4, 5}, {7, 10}, {3, 5}, {1, 2}, {2, 5}, {3, 10}, {1, 5}, {1, 10}, {0, 1}};
        for (int n = 0; n <= 10; n++) {
            for (int s = 0; s < 10; s++) {
                hidden(ONES, s, n, free[n][0], free[n][1]);
            }
        }
        due("11 of 10", home(ONES).hidden(0, 0, 11, false), NONE);
        due("11 of 10, under", home(ONES).hidden(0, 0, 11, true), NONE);
        due("10 of 9", home(secrets(1, 1, 1, 1, 1, 1, 1, 1, 1)).hidden(0, 0, 10, false), NONE);
        hidden(secrets(1), 0, 0, 1, 1);
        hidden(secrets(1), 0, 1, 0, 1);
        hidden(secrets(1, 1, 1) + "link 0 1 2;", 2, 2, 0, 1);
        hidden(secrets(1, 1, 1) + "link 0 1 2;", 2, 1, 2, 3);
        hidden(secrets(1, 1, 1) + "link 0 1 2;", 0, 2, 1, 3);
        KIT.of("LEAKS of n, 0 .. 10: n SECRETS slip, all sets of n alike: WEIGHT of what COMES of them in the mean, a "
                + "fraction in least terms.");
        for (int n = 0; n <= 10; n++) {
            leaks(STEPS, n, n % 2 == 0 ? n / 2 * 11 : n * 11, n % 2 == 0 ? 1 : 2);
            leaks(THIRTIES, n, 30L * n, 1);
        }
        leaks("", 0, 0, 1);
        leaks(secrets(7), 0, 0, 1);
        leaks(secrets(7), 1, 7, 1);
        leaks(secrets(1, 1, 5) + "link 0 1 2;", 2, 19, 3);
        leaks(CHAIN, 10, 10, 1);
        due("1 of none", home("").leaks(0, 1, false), NONE);
        due("11 of 10", home(STEPS).leaks(0, 11, true), NONE);
    }

    private static void cuts() {
        KIT.of("CUT of n, 0 .. 3: the most WEIGHT that can be kept out of what COMES of all SECRETS, if n SECRETS are taken "
                + "away at most; which (bits; the fewest, of several the least).");
        int[] most = {0, 10, 19, 27};
        int[] which = {0, 512, 768, 896};
        for (int n = 0; n <= 3; n++) {
            due("CUT of " + n, home(STEPS).cut(0, n, false), most[n]);
            due("CUT of " + n + ", which", home(STEPS).cut(0, n, true), which[n]);
            due("CUT of " + n + ", of several the least", home(THIRTIES).cut(0, n, true), (1 << n) - 1);
            due("CUT of " + n + " without SECRETS", home("").cut(0, n, true), 0);
            due("CUT of " + n + ", one SECRET", home(secrets(4)).cut(0, n, false), n == 0 ? 0 : 4);
            due("CUT of " + n + ", one SECRET, which", home(secrets(4)).cut(0, n, true), n == 0 ? 0 : 1);
        }
        due("the lightest", home(secrets(1)).cut(0, 1, true), 1);
        due("the lightest, WEIGHT", home(secrets(1)).cut(0, 1, false), 1);
        String link = secrets(1, 2, 30) + "link 0 1 2;";
        due("it comes again", home(link).cut(0, 1, true), 2);
        due("it comes again, WEIGHT", home(link).cut(0, 1, false), 2);
        due("it, and one that makes it known", home(link).cut(0, 2, true), 6);
        due("all three", home(link).cut(0, 3, true), 7);
        String ring = secrets(1, 1, 30, 1) + "link 0 1 2;link 0 3 2;link 1 3 2;";
        String round = secrets(9, 9, 9) + "link 0 1 2;link 1 2 0;link 2 0 1;";
        due("each comes again, so none is taken", home(round).cut(0, 1, true), 0);
        due("each comes again, WEIGHT", home(round).cut(0, 1, false), 0);
        due("two do not", home(round).cut(0, 2, true), 3);
        due("what takes three", home(ring).cut(0, 3, true), 7);
        due("what two can't", home(ring).cut(0, 2, false), 2);
    }

    private static void heirs() {
        KIT.of("HEIRS: PIECES are shared by two: the set of the first's (bits; of several the least) by which WEIGHTS of what "
                + "they KNOW, each PIECE's by itself (what it KNOWS added up), differ least; by how much.");
        due("no PIECES", home(ONES).heirs(0, false), 0);
        due("no PIECES, by", home(ONES).heirs(0, true), 0);
        due("one PIECE", home("piece love 1;secret love 9;knows 0 0;").heirs(0, false), 0);
        due("one PIECE, by", home("piece love 1;secret love 9;knows 0 0;").heirs(0, true), 9);
        due("none KNOWS any", home(EIGHT + ONES).heirs(0, false), 0);
        due("none KNOWS any, by", home(EIGHT + ONES).heirs(0, true), 0);
        StringBuilder all = new StringBuilder(EIGHT + "secret love 30;");
        for (int p = 0; p < 8; p++) {
            all.append("knows ").append(p).append(" 0;");
        }
        due("all KNOW the same, each by itself", home(all.toString()).heirs(0, true), 0);
        due("four of eight, the least", home(all.toString()).heirs(0, false), 15);
        String three = "piece love 1;piece love 1;piece love 1;" + secrets(5, 7, 11) + "knows 0 0;knows 1 1;knows 2 2;";
        due("what is left over", home(three).heirs(0, true), 1);
        due("the least set", home(three).heirs(0, false), 3);
        due("by the last alone", home("piece love 1;piece love 1;" + secrets(9) + "knows 1 0;").heirs(0, false), 0);
    }

    private static void lasting() {
        KIT.of("LASTING of a PIECE, n, 0 .. 60: the SECRET by which it has most SHINE n hours after it was told, of several "
                + "the least; how much.");
        TarnishTurns x = home("piece love 1;piece love 0;piece love 9;piece debt 1;" + secrets(1, 29, 30, 30));
        int[][] cases = {{0, 0, 2, 60}, {0, 57, 2, 3}, {0, 58, 2, 2}, {0, 59, 2, 1}, {0, 60, 0, 0}, {1, 0, 2, 60},
            {1, 60, 2, 60}, {2, 0, 2, 60}, {2, 6, 2, 6}, {2, 7, 0, 0}, {2, 60, 0, 0}, {3, 29, 2, 1}, {3, 30, 0, 0}};
        for (int[] c : cases) {
            due("LASTING of " + c[0] + ", " + c[1], x.lasting(0, c[0], c[1], false), c[2]);
            due("LASTING of " + c[0] + ", " + c[1] + ", much", x.lasting(0, c[0], c[1], true), c[3]);
        }
        TarnishTurns known = home("piece love 1;secret love 9;secret debt 10;knows 0 0;");
        due("a known one is less", known.lasting(0, 0, 0, false), 1);
        due("0 at the least", home("piece love 9;secret love 1;").lasting(0, 0, 60, true), 0);
        due("the last SECRET", home("piece love 1;" + STEPS).lasting(0, 0, 0, false), 9);
        due("the last SECRET, much", home("piece love 1;" + STEPS).lasting(0, 0, 0, true), 20);
    }

    private static void lit() {
        KIT.of("LIT of a LIGHT, 1 .. 60: of each SECRET the most hours for which any PIECE that was told it has that SHINE or "
                + "more (counted behind none, one, two .. hours off; 60, if more, or WEAR is 0; 0, if it never has), "
                + "all added up.");
        int[][] cases = {{1, 60}, {2, 59}, {30, 31}, {59, 2}, {60, 1}};
        for (int[] c : cases) {
            due("by WEAR 1, LIGHT " + c[0], home("piece love 1;secret love 30;").lit(0, c[0]), c[1]);
            due("by WEAR 0, LIGHT " + c[0], home("piece love 0;secret love 30;").lit(0, c[0]), 60);
            due("without PIECES, LIGHT " + c[0], home("secret love 30;").lit(0, c[0]), 0);
            due("without SECRETS, LIGHT " + c[0], home("piece love 1;").lit(0, c[0]), 0);
        }
        int[] nines = {7, 7, 7, 7, 7, 7, 6, 6};
        for (int light = 1; light <= 8; light++) {
            due("by WEAR 9, LIGHT " + light, home("piece love 9;secret love 30;").lit(0, light), nines[light - 1]);
        }
        due("just its SHINE", home("piece debt 0;secret love 30;").lit(0, 30), 60);
        due("more than its SHINE", home("piece debt 0;secret love 30;").lit(0, 31), 0);
        due("known, nothing is left", home("piece debt 0;secret love 1;knows 0 0;").lit(0, 1), 0);
        due("by any PIECE", home("piece love 9;piece debt 1;secret love 30;").lit(0, 1), 30);
        due("all added up", home("piece love 0;" + THIRTIES).lit(0, 60), 600);
        due("each by its own PIECE", home("piece love 1;piece debt 2;secret love 3;secret debt 4;").lit(0, 1), 6 + 4);
    }

    private static void dusky() {
        KIT.of("DUSKY of a SECRET: the couple of PIECES (10 times the one, and the other, greater one), by numbers the first, "
                + "that both shine longest, if it is told to both; how many hours (until one has no SHINE; 60 as in LIT).");
        int[][] cases = {{1, 1, 30}, {0, 0, 60}, {0, 1, 30}, {1, 0, 30}, {9, 9, 4}, {9, 0, 4}};
        for (int[] c : cases) {
            TarnishTurns x = home("piece love " + c[0] + ";piece love " + c[1] + ";secret love 30;");
            due("WEAR " + c[0] + ", " + c[1], x.dusky(0, 0, false), 1);
            due("WEAR " + c[0] + ", " + c[1] + ", hours", x.dusky(0, 0, true), c[2]);
        }
        due("half of 1 without WEAR", home("piece debt 0;piece debt 0;secret love 1;").dusky(0, 0, true), 0);
        due("half of 2 and of 1", home("piece love 0;piece debt 0;secret love 1;").dusky(0, 0, true), 0);
        due("half of 2", home("piece love 0;piece love 0;secret love 1;").dusky(0, 0, true), 60);
        due("half of 3 is cut", home("piece debt 1;piece debt 1;secret love 3;").dusky(0, 0, true), 1);
        due("known", home("piece love 1;piece love 1;secret love 9;knows 0 0;").dusky(0, 0, true), 4);
        String last = Kit.times("piece love 9;", 6) + "piece love 0;piece love 0;secret love 30;";
        due("the last couple", home(last).dusky(0, 0, false), 67);
        due("the last couple, hours", home(last).dusky(0, 0, true), 60);
        due("the first and the last", home("piece love 1;" + Kit.times("piece love 9;", 6) + "piece love 1;secret love 30;")
                .dusky(0, 0, false), 7);
        for (int p = 0; p < 7; p++) {
            // The one wears off sooner than the other: its hours are those of the couple.
            String couple = Kit.times("piece love 9;", p) + "piece love 3;piece love 2;" + Kit.times("piece love 9;", 6 - p)
                    + "secret love 30;";
            due("a couple from " + p + " on", home(couple).dusky(0, 0, false), 11 * p + 1);
            due("a couple from " + p + " on, hours", home(couple).dusky(0, 0, true), 10);
            String turned = couple.replace("piece love 3;piece love 2;", "piece love 2;piece love 3;");
            due("the other wears off sooner, from " + p + " on", home(turned).dusky(0, 0, true), 10);
        }
        due("by numbers the first", home(EIGHT + THIRTIES).dusky(0, 9, false), 1);
        for (int pieces = 0; pieces < 2; pieces++) {
            String few = Kit.times("piece love 1;", pieces) + "secret love 30;";
            due("fewer than two, " + pieces, home(few).dusky(0, 0, false), NONE);
            due("fewer than two, hours, " + pieces, home(few).dusky(0, 0, true), NONE);
        }
    }

    private static void tastes() {
        KIT.of("FITTER: the PIECE and the KIND (10 times the PIECE, and the KIND), of several the least, by which, being its "
                + "TASTE, WORTHS of all SECRETS to all PIECES together are greatest; how much they are then.");
        due("no PIECES", home(ONES).fitter(0, false), NONE);
        due("no PIECES, much", home(ONES).fitter(0, true), NONE);
        due("no SECRETS", home("piece will 1;piece will 1;").fitter(0, false), 0);
        due("no SECRETS, much", home("piece will 1;piece will 1;").fitter(0, true), 0);
        String last = Kit.times("piece will 1;", 7) + "piece love 1;secret will 5;";
        due("the last PIECE and KIND", home(last).fitter(0, false), 73);
        due("the last PIECE and KIND, much", home(last).fitter(0, true), 80);
        due("its own TASTE", home("piece debt 1;secret debt 5;").fitter(0, false), 1);
        due("its own TASTE, much", home("piece debt 1;secret debt 5;").fitter(0, true), 10);
        due("of several the least", home("piece will 1;piece will 1;secret love 5;secret debt 5;").fitter(0, false), 0);
        due("known by half", home("piece will 1;piece will 1;secret debt 1;knows 0 0;").fitter(0, false), 1);
        due("known by half, much", home("piece will 1;piece will 1;secret debt 1;knows 0 0;").fitter(0, true), 2);
        due("most of all", home(Kit.times("piece love 1;", 8) + THIRTIES).fitter(0, true), 4800);
        due("twice beats half", home("piece love 1;piece love 1;secret debt 9;knows 0 0;").fitter(0, false), 11);
        KIT.of("UNLIKE of two HOUSES: how many couples of a SECRET's and a PIECE's numbers there are, in both, of unlike "
                + "WORTH.");
        due("all 80", unlike(EIGHT + THIRTIES, EIGHT + ONES), 80);
        due("all alike", unlike(EIGHT + THIRTIES, EIGHT + THIRTIES), 0);
        due("no PIECES in the other", unlike(EIGHT + THIRTIES, THIRTIES), 0);
        due("no SECRETS in the other", unlike(EIGHT + THIRTIES, EIGHT), 0);
        due("fewer PIECES in the other", unlike(EIGHT + THIRTIES, "piece love 1;" + ONES), 10);
        due("fewer SECRETS in the other", unlike(EIGHT + THIRTIES, EIGHT + "secret love 1;"), 8);
        due("one is known", unlike(EIGHT + THIRTIES, EIGHT + THIRTIES + "knows 7 9;"), 1);
        due("known by TASTE is as without", unlike("piece love 1;secret love 9;knows 0 0;", "piece debt 1;secret love 9;"), 0);
        due("WEAR is no WORTH", unlike("piece love 1;secret love 9;", "piece love 2;secret love 9;"), 0);
        due("nothing in either", unlike("", ""), 0);
    }

    private static int unlike(String one, String other) {
        TarnishTurns x = home(one);
        Kit.tell(x, 0, other);
        due("as many the other way", x.unlike(1, 0), x.unlike(0, 1));
        return x.unlike(0, 1);
    }

    private static void spread() {
        KIT.of("SPREAD: SECRETS (bits) that all PIECES KNOW; that none does; that just one does.");
        StringBuilder all = new StringBuilder(EIGHT + ONES);
        for (int p = 0; p < 8; p++) {
            all.append("knows ").append(p).append(" 9;");
        }
        all.append("knows 7 0;knows 0 1;knows 7 1;");
        int[] wants = {512, 252 + 256, 1};
        for (int what = 0; what < 3; what++) {
            due("SPREAD " + what, home(all.toString()).spread(0, what), wants[what]);
        }
        due("seven of eight are not all", home(all.toString().replace("knows 3 9;", "")).spread(0, 0), 0);
        due("one PIECE, all", home("piece love 1;" + secrets(1, 1) + "knows 0 0;").spread(0, 0), 1);
        due("one PIECE, none", home("piece love 1;" + secrets(1, 1) + "knows 0 0;").spread(0, 1), 2);
        due("one PIECE, just one", home("piece love 1;" + secrets(1, 1) + "knows 0 0;").spread(0, 2), 1);
        for (int what = 0; what < 3; what++) {
            due("no SECRETS, " + what, home(EIGHT).spread(0, what), 0);
            due("no PIECES, " + what, home(ONES).spread(0, what), what < 2 ? 1023 : 0);
        }
    }

    private static void spare() {
        KIT.of("SPARE: LINKS (bits) without each of which, all others staying, the same COMES of each set of SECRETS.");
        due("no LINKS", home(ONES).spare(0), 0);
        due("nothing", home("").spare(0), 0);
        due("one", home(secrets(1, 1, 1) + "link 0 1 2;").spare(0), 0);
        due("eight alike", home(ONES + Kit.times("link 9 8 7;", 8)).spare(0), 255);
        due("seven alike and one", home(ONES + Kit.times("link 9 8 7;", 7) + "link 0 1 2;").spare(0), 127);
        due("one and seven alike", home(ONES + "link 0 1 2;" + Kit.times("link 9 8 7;", 7)).spare(0), 254);
        due("alike the other way", home(ONES + "link 9 8 7;link 8 9 7;").spare(0), 3);
        due("by two others", home(ONES + "link 0 1 2;link 0 2 3;link 0 1 3;").spare(0), 4);
        due("the chain", home(CHAIN).spare(0), 0);
    }

    /** What a HOUSE, a MONTH, DINNERS and a LOG say together, as a row of answers. */
    private static String answers(TarnishTurns x) {
        StringBuilder all = new StringBuilder();
        for (int i = 0; i < 9; i++) {
            long[] row = {x.theft(0, i, false), x.theft(0, i, true), x.guarded(0, i, 2, false), x.guarded(0, 1, i, true),
                x.hidden(0, 0, i, false), x.leaks(0, i, false), x.cut(0, i, true), x.spread(0, i), x.after(0, 0, i),
                x.fits(0, 0, i), x.evening(0, 30, i), x.evenings(0, 1 + 9 * i), x.lit(0, 1 + i), x.lasting(0, i, i, true),
                x.dusky(0, i, true), x.keep(0, i, false), x.keep(0, i, true), x.depth(0, 7, i), x.comes(0, i),
                x.state(0, 0, 2, 10 + i), x.drawn(0, 5, 60, 30 + i), x.served(0, 0, i - 2)};
            for (long answer : row) {
                all.append(answer).append(' ');
            }
        }
        all.append(x.heirs(0, true)).append(' ').append(x.fitter(0, true)).append(' ').append(x.spare(0));
        return all.append(' ').append(x.till(0, 0)).toString();
    }

    /** Texts in the place of greater ones are answered as on a new object: nothing of the greater ones is left. */
    private static void smaller() {
        KIT.of("or in the place of one: its number.");
        StringBuilder great = new StringBuilder(Kit.times("piece will 9;", 8) + THIRTIES + Kit.times("link 0 1 2;", 8));
        for (int p = 0; p < 8; p++) {
            great.append("knows ").append(p).append(' ').append(9 - p).append(';');
        }
        String[] greater = {great.toString(), Kit.times("both 9 6 7;", 40), Kit.times("dinner 60 7 9;", 8),
            Kit.times("shone 7 2;", 8)};
        String[][] less = {{"", "", "", ""}, {"piece love 1;", "hour;", "", ""},
            {"piece love 1;" + secrets(1), "tell 0 0;hour;", "dinner 1 0 1;", "shone 0 2;"},
            {"piece love 1;piece debt 0;" + secrets(2, 1, 3) + "knows 0 1;", "both 0 0 1;tell 1 1;",
                "dinner 0 0 1;dinner 1 1 1;", "shone 0 4;shone 1 60;"}};
        for (String[] texts : less) {
            TarnishTurns x = Kit.with(greater[0], greater[1], greater[2], greater[3]);
            for (int sort = 0; sort < 4; sort++) {
                Kit.put(x, texts[sort]);
                due("in the place of a greater one, sort " + sort, x.text(sort, 0), 0);
            }
            String anew = answers(Kit.with(texts[0], texts[1], texts[2], texts[3]));
            KIT.due("as on a new object: " + texts[0], answers(x).equals(anew), true);
        }
    }

    public static void main(String[] args) {
        smaller();
        details();
        comes();
        keeps();
        thefts();
        evenings();
        chances();
        cuts();
        heirs();
        lasting();
        lit();
        dusky();
        tastes();
        spread();
        spare();
        KIT.finish();
    }
}
