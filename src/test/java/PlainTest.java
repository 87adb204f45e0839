/** The document's plain sentences, those that name no boundary case: what texts say, as told, in turn, by a flag. */
public final class PlainTest {
    private static final int NONE = TarnishTurns.NONE;
    private static final Kit KIT = new Kit();
    private static final String[] KINDS = {"love", "debt", "death", "will"};

    private static void due(String call, long got, long want) {
        KIT.due(call, got, want);
    }

    private static void dueRow(String call, TarnishTurns x, int house, int from, int... wants) {
        for (int i = 0; i < wants.length; i++) {
            due(call + " " + i, x.house(house, from + i), wants[i]);
        }
    }

    /** Lines of one sort may stand among others: each is numbered among its own. */
    private static void houses() {
        KIT.of("A HOUSE has PIECES, at most 8, from 0 on: TASTE, a KIND, WEAR, 0 .. 9; SECRETS, at most 10, from 0 on: a KIND, "
                + "WEIGHT, 1 .. 30; what PIECES KNOW; LINKS, at most 8, from 0 on: two SECRETS that make a third one known.");
        TarnishTurns x = Kit.home("secret will 30;piece love 0;link 0 1 2;secret love 1;piece debt 9;knows 1 2;"
                + "secret death 15;piece death 4;knows 0 0;link 2 1 0;piece will 7;secret debt 8;knows 3 3;knows 1 0;");
        dueRow("PIECES, SECRETS, LINKS", x, 0, 0, 4, 4, 2);
        dueRow("TASTE", x, 0, 10, 0, 1, 2, 3, NONE);
        dueRow("WEAR", x, 0, 20, 0, 9, 4, 7, NONE);
        dueRow("KNOWS", x, 0, 30, 1, 5, 0, 8, NONE);
        dueRow("KIND", x, 0, 40, 3, 0, 2, 1, NONE);
        dueRow("WEIGHT", x, 0, 50, 30, 1, 15, 8, NONE);
        dueRow("the one of a LINK", x, 0, 60, 0, 2, NONE);
        dueRow("the other of a LINK", x, 0, 70, 1, 1, NONE);
        dueRow("the third of a LINK", x, 0, 80, 2, 0, NONE);
        due("by the first LINK", x.comes(0, 3), 7);
        due("by the second LINK", x.comes(0, 6), 7);
        due("a third one makes nothing known", x.comes(0, 5), 5);
    }

    private static void kinds() {
        KIT.of("KIND: 'love' | 'debt' | 'death' | 'will' (piece: WEAR; secret: WEIGHT; knows: a PIECE, 0 .. 7, a SECRET, "
                + "0 .. 9; link: two SECRETS, and the third one).");
        for (int kind = 0; kind < 4; kind++) {
            for (int number = 0; number <= 30; number++) {
                if (number <= 9) {
                    TarnishTurns x = Kit.home("piece " + KINDS[kind] + " " + number + ";");
                    due("TASTE of " + kind + " " + number, x.house(0, 10), kind);
                    due("WEAR of " + kind + " " + number, x.house(0, 20), number);
                }
                if (number >= 1) {
                    TarnishTurns x = Kit.home("secret " + KINDS[kind] + " " + number + ";");
                    due("KIND of " + kind + " " + number, x.house(0, 40), kind);
                    due("WEIGHT of " + kind + " " + number, x.house(0, 50), number);
                }
            }
        }
        String great = Kit.times("piece love 1;", 8) + Kit.times("secret love 1;", 10);
        for (int p = 0; p < 8; p++) {
            for (int s = 0; s < 10; s++) {
                TarnishTurns x = Kit.home(great + "knows " + p + " " + s + ";");
                for (int q = 0; q < 8; q++) {
                    due("knows " + p + " " + s + ", " + q, x.house(0, 30 + q), q == p ? 1 << s : 0);
                }
            }
        }
        for (int a = 0; a < 10; a++) {
            int b = (a + 3) % 10;
            int c = (a + 7) % 10;
            TarnishTurns x = Kit.home(great + "link " + a + " " + b + " " + c + ";");
            due("the one of link " + a, x.house(0, 60), a);
            due("the other of link " + a, x.house(0, 70), b);
            due("the third of link " + a, x.house(0, 80), c);
            due("what link " + a + " makes known", x.comes(0, 1 << a | 1 << b), 1 << a | 1 << b | 1 << c);
        }
    }

    private static final String[][] VERBS = {{"piece love", "secret love", "knows", "link"},
        {"tell", "both", "polish", "steal", "back", "hour"}, {"dinner"}, {"shone"}};
    private static final int[][] NUMBERS = {{1, 1, 2, 3}, {2, 3, 1, 1, 1, 0}, {3}, {2}};

    /** Each line with no NUMBER to four: only as many as it has are a text. */
    private static void lines() {
        KIT.of("A MONTH's text: {('tell' NUMBER NUMBER | 'both' NUMBER NUMBER NUMBER | ('polish' | 'steal' | 'back') NUMBER | "
                + "'hour') ';'} (tell: a SECRET, a PIECE; both: a SECRET, two PIECES; polish and so on: a PIECE). DINNERS' "
                + "text: {'dinner' NUMBER NUMBER NUMBER ';'} (HOUR, PIECE, LIGHT). A LOG's text: {'shone' NUMBER NUMBER ';'}.");
        for (int sort = 0; sort < 4; sort++) {
            for (int v = 0; v < VERBS[sort].length; v++) {
                for (int given = 0; given <= 4; given++) {
                    line(sort, VERBS[sort][v], NUMBERS[sort][v], given);
                }
            }
        }
        for (String one : DEEDS) {
            for (String other : DEEDS) {
                TarnishTurns x = Kit.with(null, one + other, null, null);
                due("two DEEDS, " + one + other, x.deed(0, NONE, 0), 2);
                KIT.due("the one, " + one + other, DEEDS[x.deed(0, 0, 0)].equals(one), true);
                KIT.due("the other, " + one + other, DEEDS[x.deed(0, 1, 0)].equals(other), true);
            }
        }
        TarnishTurns x = Kit.with(null, "tell 3 4;both 5 6 7;", "dinner 8 7 9;", "shone 6 50;");
        due("tell: a SECRET", x.deed(0, 0, 1), 3);
        due("tell: a PIECE", x.deed(0, 0, 2), 4);
        due("both: a SECRET", x.deed(0, 1, 1), 5);
        due("both: a PIECE", x.deed(0, 1, 2), 6);
        due("both: another PIECE", x.deed(0, 1, 3), 7);
        due("HOUR", x.dinner(0, 0, 0), 8);
        due("PIECE", x.dinner(0, 0, 1), 7);
        due("LIGHT", x.dinner(0, 0, 2), 9);
        due("shone: a PIECE", x.fact(0, 0, 0), 6);
        due("shone: how long", x.fact(0, 0, 1), 50);
    }

    private static final String[] DEEDS = {"tell 1 2;", "both 1 2 3;", "polish 1;", "steal 1;", "back 1;", "hour;"};

    private static void line(int sort, String verb, int has, int given) {
        String text = verb + " 1 2 3 4".substring(0, 2 * given) + ";";
        TarnishTurns x = new TarnishTurns();
        int got = Kit.tell(x, sort, text);
        // knows and link tell of SECRETS that are not there: a text, but for that.
        int whole = verb.equals("knows") || verb.equals("link") ? 4 : 0;
        due("text of " + text, got, given == has && whole == 0 ? 0 : NONE);
        due("FAULT of " + text, x.fault(0), given == has ? whole : 1);
        int bad = given < has ? text.length() - 1 : verb.length() + 2 * has + 1;
        due("place of " + text, x.fault(1), given != has ? bad : whole == 0 ? NONE : text.length());
    }

    private static final String TOLD = "piece love 0;piece love 1;secret love 10;secret debt 4;";

    /** What a HOUSE says, as told: none of it is changed by what its MONTHS tell. */
    private static void asTold(String call, TarnishTurns x) {
        due(call + ", KNOWS", x.house(0, 30) + x.house(0, 31), 0);
        due(call + ", WORTH", x.worth(0, 0, 0), 20);
        due(call + ", SERVED", x.served(0, 0, NONE), 1);
        due(call + ", the row", x.served(0, 0, 0), 0);
        due(call + ", THEFT", x.theft(0, 8, false), 0);
        due(call + ", GUARDED", x.guarded(0, 0, 8, false), 0);
        due(call + ", HEIRS", x.heirs(0, false), 0);
        due(call + ", LASTING", x.lasting(0, 0, 60, true), 20);
        due(call + ", LIT", x.lit(0, 1), 120);
        due(call + ", DUSKY", x.dusky(0, 0, true), 10);
        due(call + ", FITTER", x.fitter(0, false), 0);
        due(call + ", FITTER, much", x.fitter(0, true), 48);
        due(call + ", UNLIKE", x.unlike(0, 1), 0);
        due(call + ", SPREAD", x.spread(0, 1), 3);
        due(call + ", WHICH", x.fits(0, 0, 3), 1);
        due(call + ", WOULD", x.would(0, 0, 0, 1), 20);
    }

    private static void ofHousesAsTold() {
        KIT.of("(Of a HOUSE as told.)");
        String month = "tell 0 0;tell 1 0;tell 0 1;both 1 1 0;polish 1;hour;steal 0;";
        TarnishTurns x = Kit.with(TOLD, month, "dinner 0 0 20;", "shone 1 20;");
        Kit.tell(x, 0, TOLD);
        asTold("at first", x);
        due("till", x.till(0, 0), 7);
        asTold("behind till()", x);
        due("state", x.state(0, 0, 7, 30), 3);
        asTold("behind state()", x);
        due("after", x.after(0, 0, 3), 20);
        asTold("behind after()", x);
        for (int seed = 0; seed < 10; seed++) {
            x.drawn(0, seed, 60, 0);
            asTold("behind drawn(), " + seed, x);
        }
        due("in the other HOUSE", x.state(1, 0, 1, 10), 20);
        asTold("behind the other HOUSE's", x);
    }

    private static void inTurn() {
        KIT.of("SERVED: DINNERS one behind the other; ahead of each one SECRET may be told to its PIECE");
        String house = "piece love 0;piece love 0;secret love 1;secret love 2;secret love 3;";
        int[][] rows = {{0, 0, 1}, {0, 1, 1}, {0, 1, 0}, {1, 0, 1}, {1, 1, 1}};
        int[] fewest = {2, 2, 3, 3, 1};
        int[][] wants = {{0, 10, 1}, {0, 1, 10}, {0, 1, 2}, {0, 1, 2}, {0, 10, 10}};
        for (int i = 0; i < rows.length; i++) {
            StringBuilder dinners = new StringBuilder();
            for (int p : rows[i]) {
                dinners.append("dinner 5 ").append(p).append(" 1;");
            }
            TarnishTurns x = Kit.with(house, null, dinners.toString(), null);
            due("fewest by " + dinners, x.served(0, 0, NONE), fewest[i]);
            for (int k = 0; k < 3; k++) {
                due("ahead of " + k + " by " + dinners, x.served(0, 0, k), wants[i][k]);
            }
        }
    }

    private static void anew() {
        KIT.of("By a LOG in a HOUSE: a SECRET that was told to each of those PIECES anew, by itself: it SHONE for as many hours "
                + "as it took until it had no SHINE");
        TarnishTurns x = Kit.with("piece love 1;piece love 1;secret love 5;knows 0 0;", null, null, "shone 0 10;shone 1 10;");
        int[] codes = {4, 39, 69, 99};
        due("how many", x.fits(0, 0, 0), 4);
        for (int k = 0; k < 4; k++) {
            due("the " + k + "-th", x.fits(0, 0, 10 + k), codes[k]);
        }
        due("known or not", x.fits(0, 0, 3), 1);
        KIT.of("By a LOG in a HOUSE: WOULD of k, a PIECE: how long it would shine by the k-th that FITS.");
        due("by love of 5", x.would(0, 0, 0, 0), 10);
        due("by debt of 10", x.would(0, 0, 1, 1), 10);
        KIT.of("WOULD. NONE: not so many FIT");
        due("of one that is not among them", x.would(0, 0, 4, 1), NONE);
        due("in another HOUSE", inOther(x), 20);
    }

    /** The same LOG in a HOUSE of other WEAR and TASTE: debt of 10 FITS first. */
    private static int inOther(TarnishTurns x) {
        Kit.tell(x, 0, "piece debt 2;piece will 1;piece debt 1;");
        due("FITS in another HOUSE", x.fits(1, 0, 10), 39);
        return x.would(1, 0, 0, 2);
    }

    /** The first lot by numbers of 64 bits, cut to 32: what it does is seen in what is known, polished, gone, stolen. */
    private static void lots() {
        KIT.of("DRAWN by a SEED, x; a number below n is drawn: x becomes x * 1103515245 + 12345 (of 32 bits), it is x shifted "
                + "right by 16 without sign, remainder by n");
        String house = Kit.times("piece love 1;", 7) + Kit.times("secret love 9;", 9);
        int[] seen = new int[8];
        for (int i = 0; i < 400; i++) {
            int seed = (int) (i * 2654435761L);
            long one = step(seed & 0xffffffffL);
            long two = step(one);
            long three = step(two);
            int lot = (int) (one >> 16) % 8;
            int first = (int) (two >> 16);
            int second = (int) (three >> 16);
            seen[lot]++;
            TarnishTurns x = Kit.home(house);
            for (int p = 0; p < 7; p++) {
                boolean told = lot < 3 && p == second % 7 || lot == 2 && p == (second % 7 + 1) % 7;
                due("KNOWS by " + seed + ", " + p, x.drawn(0, seed, 1, 30 + p), told ? 1 << first % 9 : 0);
                due("GLOSS by " + seed + ", " + p, x.drawn(0, seed, 1, 20 + p), lot == 3 && p == first % 7 ? 5 : 0);
            }
            due("hour by " + seed, x.drawn(0, seed, 1, 0), lot >= 4 && lot <= 6 ? 1 : 0);
            due("STOLEN by " + seed, x.drawn(0, seed, 1, 3), lot == 7 ? 1 << first % 7 : 0);
        }
        for (int lot = 0; lot < 8; lot++) {
            KIT.due("lot " + lot + " was drawn", seen[lot] > 10, true);
        }
    }

    private static long step(long x) {
        return (x * 1103515245L + 12345L) & 0xffffffffL;
    }

    private static void monthsInHouses() {
        KIT.of("Of a MONTH in a HOUSE: STAR: the PIECE that is BRIGHT in most of all its STATES");
        String month = "both 0 0 1;hour;hour;tell 1 1;hour;";
        TarnishTurns x = Kit.with("piece love 0;piece debt 0;secret love 8;secret debt 8;", month, null, null);
        Kit.tell(x, 0, "piece debt 3;piece love 1;secret love 8;secret death 2;");
        Kit.tell(x, 1, "hour;");
        int[][] wants = {{0, 1, 1, 16}, {1, 1, 1, 8}};
        for (int house = 0; house < 2; house++) {
            for (int what = 0; what < 4; what++) {
                due("after, HOUSE " + house + ", " + what, x.after(house, 0, what), wants[house][what]);
            }
            due("STAR of another MONTH, HOUSE " + house, x.after(house, 1, 0), NONE);
            due("DARK of another MONTH, HOUSE " + house, x.after(house, 1, 1), 2);
        }
    }

    private static void flags() {
        String house = "piece love 1;piece debt 1;piece will 2;secret love 4;secret debt 6;secret will 30;knows 0 0;knows 1 1;"
                + "link 0 1 2;";
        TarnishTurns x = Kit.with(house, null, "dinner 3 2 1;", "shone 2 15;");
        KIT.of("KEEP (bits), or (find) FIND (bits).");
        due("KEEP", x.keep(0, 2, false), 5);
        due("FIND", x.keep(0, 2, true), 3);
        KIT.of("THEFT of n: the WEIGHT, or (pieces) which PIECES (bits).");
        due("THEFT", x.theft(0, 2, false), 40);
        due("THEFT, which", x.theft(0, 2, true), 3);
        KIT.of("LASTING: the SECRET, or (much) how much.");
        due("LASTING", x.lasting(0, 2, 10, false), 2);
        due("LASTING, much", x.lasting(0, 2, 10, true), 40);
        KIT.of("DUSKY: the couple, or (hours) how many.");
        due("DUSKY", x.dusky(0, 2, false), 1);
        due("DUSKY, hours", x.dusky(0, 2, true), 15);
        KIT.of("DEPTH. NONE: it does not come");
        due("DEPTH", x.depth(0, 3, 2), 1);
        due("DEPTH of one of them", x.depth(0, 3, 0), 0);
        due("it does not come", x.depth(0, 1, 2), NONE);
        KIT.of("GUARDED: how much, or (which) which (bits).");
        due("GUARDED", x.guarded(0, 1, 2, false), 4);
        due("GUARDED, which", x.guarded(0, 1, 2, true), 2);
        KIT.of("1, 2: SURE of the KIND, of the WEIGHT (NONE: not one), 3: WHICH (bits), 4: ASK (NONE: nothing FITS, no PIECES), "
                + "10 + k: the k-th.");
        int[] fits = {7, NONE, NONE, 0, 0};
        int[] codes = {28, 29, 58, 59, 88, 89, 104};
        for (int what = 0; what < 5; what++) {
            due("fits, " + what, x.fits(0, 0, what), fits[what]);
        }
        for (int k = 0; k < 7; k++) {
            due("the " + k + "-th", x.fits(0, 0, 10 + k), codes[k]);
        }
        KIT.of("How many DINNERS (k NONE, what 0); of DINNER k, what 0: HOUR, 1: PIECE, 2: LIGHT.");
        due("how many", x.dinner(0, NONE, 0), 1);
        due("HOUR", x.dinner(0, 0, 0), 3);
        due("PIECE", x.dinner(0, 0, 1), 2);
        due("LIGHT", x.dinner(0, 0, 2), 1);
        KIT.of("How many FACTS (k NONE, what 0); of FACT k, what 0: the PIECE, 1: how long.");
        due("how many", x.fact(0, NONE, 0), 1);
        due("the PIECE", x.fact(0, 0, 0), 2);
        due("how long", x.fact(0, 0, 1), 15);
    }

    private static void tape() {
        KIT.of("The tape: twenty bytes come behind it, of each number the highest first: how many it has.");
        String one = "tell 1 2;both 3 4 5;";
        String other = "hour;steal 6;back 7;";
        TarnishTurns x = new TarnishTurns();
        for (String twenty : new String[] {one, other}) {
            int[] fours = new int[5];
            for (int i = 0; i < 5; i++) {
                fours[i] = Kit.four(twenty, 4 * i);
            }
            due("feed", x.feed(fours[0], fours[1], fours[2], fours[3], fours[4]), twenty.equals(one) ? 20 : 40);
        }
        due("text", x.text(1, NONE), 0);
        int[][] deeds = {{0, 1, 2, NONE}, {1, 3, 4, 5}, {5, NONE, NONE, NONE}, {3, 6, NONE, NONE}, {4, 7, NONE, NONE}};
        due("DEEDS", x.deed(0, NONE, 0), 5);
        for (int k = 0; k < 5; k++) {
            for (int what = 0; what < 4; what++) {
                due("DEED " + k + ", " + what, x.deed(0, k, what), deeds[k][what]);
            }
        }
    }

    public static void main(String[] args) {
        houses();
        kinds();
        lines();
        ofHousesAsTold();
        inTurn();
        anew();
        lots();
        monthsInHouses();
        flags();
        tape();
        KIT.finish();
    }
}
