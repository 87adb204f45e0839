import java.util.TreeSet;

/** Edges of MONTHS: each sentence of the document about WORTH, DEEDS, STATES, DRAWN ones, and what is said of all STATES. */
public final class EdgesMonthTest {
    private static final int NONE = TarnishTurns.NONE;
    private static final int LEAST = Integer.MIN_VALUE;
    private static final int MOST = Integer.MAX_VALUE;
    private static final Kit KIT = new Kit();

    private static void due(String call, long got, long want) {
        KIT.due(call, got, want);
    }

    private static TarnishTurns month(String house, String month) {
        return Kit.with(house, month, null, null);
    }

    private static int end(String house, String month) {
        return month(house, month).till(0, 0);
    }

    /** What a STATE behind all DEEDS of a MONTH says. */
    private static int last(String house, String month, int what) {
        TarnishTurns x = month(house, month);
        return x.state(0, 0, x.deed(0, NONE, 0), what);
    }

    private static void worths() {
        KIT.of("A SECRET is WORTH to a PIECE its WEIGHT, twice that, if its KIND is the PIECE's TASTE; "
                + "half of it (cut), if the PIECE KNOWS it already.");
        int[] weights = {1, 2, 3, 29, 30};
        int[] halves = {0, 1, 1, 14, 15};
        for (int i = 0; i < weights.length; i++) {
            int weight = weights[i];
            String secret = "secret love " + weight + ";";
            due("WORTH of " + weight, Kit.home("piece debt 1;" + secret).worth(0, 0, 0), weight);
            due("WORTH of " + weight + " by TASTE", Kit.home("piece love 1;" + secret).worth(0, 0, 0), 2 * weight);
            due("WORTH of " + weight + ", known", Kit.home("piece debt 1;knows 0 0;" + secret).worth(0, 0, 0), halves[i]);
            due("WORTH of " + weight + " by TASTE, known", Kit.home("piece love 1;knows 0 0;" + secret).worth(0, 0, 0),
                    weight);
        }
        String[] kinds = {"love", "debt", "death", "will"};
        for (int taste = 0; taste < 4; taste++) {
            for (int kind = 0; kind < 4; kind++) {
                String house = "piece " + kinds[taste] + " 1;secret " + kinds[kind] + " 7;";
                due("WORTH by " + house, Kit.home(house).worth(0, 0, 0), taste == kind ? 14 : 7);
            }
        }
        KIT.of("WORTH of a SECRET to a PIECE, as told.");
        TarnishTurns x = month("piece debt 1;secret love 9;", "tell 0 0;");
        due("behind the MONTH", x.state(0, 0, 1, 30), 1);
        due("as told, all the same", x.worth(0, 0, 0), 9);
        TarnishTurns y = Kit.home(Kit.times("piece love 1;", 8) + Kit.times("secret love 5;", 10) + "knows 7 9;knows 0 0;");
        due("only who KNOWS it, 7", y.worth(0, 9, 7), 5);
        due("only what it KNOWS, 7", y.worth(0, 8, 7), 10);
        due("only who KNOWS it, 6", y.worth(0, 9, 6), 10);
        due("only who KNOWS it, 0", y.worth(0, 0, 0), 5);
    }

    private static final String TWO = "piece love 1;piece debt 9;secret love 5;secret will 1;";

    private static void beginning() {
        KIT.of("A MONTH of a HOUSE begins at hour 0, all PIECES there, without SHINE.");
        TarnishTurns x = month(TWO + "knows 1 1;", "tell 0 0;");
        int[] whats = {0, 1, 2, 3, 4, 10, 11, 20, 21, 30, 31};
        int[] wants = {0, NONE, 0, 0, 0, 0, 0, 0, 0, 0, 2};
        for (int i = 0; i < whats.length; i++) {
            due("at first, what " + whats[i], x.state(0, 0, 0, whats[i]), wants[i]);
        }
        due("told anew from the HOUSE, once", x.state(0, 0, 1, 10), 10);
        due("told anew from the HOUSE, twice", x.state(0, 0, 1, 10), 10);
        due("all there again", month(TWO, "steal 0;").state(0, 0, 0, 3), 0);
    }

    private static void telling() {
        KIT.of("tell: a PIECE's SHINE is what the SECRET is WORTH to it; all others' is 0; it KNOWS it.");
        due("tell", last(TWO, "tell 0 0;", 10), 10);
        due("tell, all others", last(TWO, "tell 0 0;tell 0 1;", 10), 0);
        due("tell, the other", last(TWO, "tell 0 0;tell 0 1;", 11), 5);
        due("tell, it KNOWS it", last(TWO, "tell 0 0;", 30), 1);
        due("tell, the other KNOWS nothing", last(TWO, "tell 0 0;", 31), 0);
        due("tell what it KNOWS", last(TWO, "tell 0 0;tell 0 0;", 10), 5);
        due("tell what it KNOWS, a third time", last(TWO, "tell 0 0;tell 0 0;tell 0 0;", 10), 5);
        due("tell 1, known: nothing", last(TWO, "tell 1 0;tell 1 0;", 10), 0);
        due("tell takes its own, too", last(TWO, "tell 0 0;tell 1 0;", 10), 1);
        KIT.of("both: two PIECES' SHINE is half (cut) of what it is WORTH to each; all others' is 0; both KNOW it.");
        due("both, the one", last(TWO, "both 0 0 1;", 10), 5);
        due("both, the other is cut", last(TWO, "both 0 0 1;", 11), 2);
        due("both, the other way", last(TWO, "both 0 1 0;", 11), 2);
        due("both, half of 1", last(TWO, "both 1 0 1;", 10), 0);
        due("both, half of 1, known all the same", last(TWO, "both 1 0 1;", 30), 2);
        due("both, half of 1, known by both", last(TWO, "both 1 0 1;", 31), 2);
        due("both, known: half of half", last(TWO, "both 0 0 1;both 0 0 1;", 10), 2);
        due("both, known: half of 2", last(TWO, "both 0 0 1;both 0 0 1;", 11), 1);
        due("both, one KNOWS it", last(TWO, "tell 0 0;both 0 0 1;", 10), 2);
        due("both, the other does not", last(TWO, "tell 0 0;both 0 0 1;", 11), 2);
        due("both, all others", last(TWO + "piece love 0;", "tell 0 2;both 0 0 1;", 12), 0);
        due("both, nothing left by half of 1", last(TWO + "piece love 0;", "tell 0 2;both 1 0 1;", 12), 0);
        due("tell, GLOSS stays", last(TWO, "polish 0;tell 0 1;", 20), 5);
        due("both, GLOSS stays", last(TWO, "polish 0;both 0 0 1;", 20), 5);
    }

    private static void polishing() {
        KIT.of("polish: a PIECE has a GLOSS of 5, no other one has any.");
        due("polish", last(TWO, "polish 0;", 20), 5);
        due("polish, no other", last(TWO, "polish 0;polish 1;", 20), 0);
        due("polish, the other", last(TWO, "polish 0;polish 1;", 21), 5);
        due("polish twice", last(TWO, "polish 0;polish 0;", 20), 5);
        due("polish gives no SHINE", last(TWO, "polish 0;", 10), 0);
        due("polish takes no SHINE", last(TWO, "tell 0 0;polish 1;", 10), 10);
        due("polish is not given", last(TWO, "polish 0;", 4), 0);
        KIT.of("SHINE of all is less by their WEAR, 0 at least; no GLOSS is left; it is the next hour.");
        due("hour, GLOSS", last(TWO, "polish 0;hour;", 20), 0);
        due("hour, SHINE", last(TWO, "tell 0 0;hour;", 10), 9);
        due("hour, 0 at least", last(TWO, "tell 0 1;hour;", 11), 0);
        due("hour, to 0", last(TWO, "tell 1 0;hour;", 10), 0);
        due("hour, from 0", last(TWO, "tell 1 0;hour;hour;", 10), 0);
        due("hour, both", last("piece love 2;piece love 3;secret love 5;", "both 0 0 1;hour;", 10), 3);
        due("hour, the other's own WEAR", last("piece love 2;piece love 3;secret love 5;", "both 0 0 1;hour;", 11), 2);
        due("hour without WEAR", last("piece love 0;secret love 30;", "tell 0 0;" + Kit.times("hour;", 39), 10), 60);
        due("WEAR 9", last("piece love 9;secret love 30;", "tell 0 0;" + Kit.times("hour;", 6), 10), 6);
        due("WEAR 9, all", last("piece love 9;secret love 30;", "tell 0 0;" + Kit.times("hour;", 7), 10), 0);
        KIT.of("hour (up to 99)");
        TarnishTurns x = month("", Kit.times("hour;", 40));
        for (int n = 0; n <= 40; n++) {
            due("hour " + n, x.state(0, 0, n, 0), n);
        }
    }

    private static void stealing() {
        KIT.of("steal: a PIECE that is there is STOLEN; back: one that is STOLEN is there again.");
        String house = Kit.times("piece love 1;", 8) + "secret love 5;";
        for (int p = 0; p < 8; p++) {
            due("steal " + p, last(house, "steal " + p + ";", 3), 1 << p);
            due("steal twice " + p, end(house, "steal " + p + ";steal " + p + ";"), 1);
            due("back " + p, last(house, "steal " + p + ";back " + p + ";", 3), 0);
            due("back twice " + p, end(house, "steal " + p + ";back " + p + ";back " + p + ";"), 2);
            due("back of one that is there " + p, end(house, "back " + p + ";"), 0);
            due("steal again " + p, last(house, "steal " + p + ";back " + p + ";steal " + p + ";", 3), 1 << p);
        }
        due("all are STOLEN", last(house, "steal 0;steal 1;steal 2;steal 3;steal 4;steal 5;steal 6;steal 7;", 3), 255);
        due("all but one", last(house, "steal 0;steal 1;steal 2;steal 3;back 2;", 3), 11);
        KIT.of("A PIECE that is STOLEN can't be told, polished; its SHINE, GLOSS are 0 as it is STOLEN.");
        due("told", end(house, "steal 7;tell 0 7;"), 1);
        due("told, the first of both", end(house, "steal 7;both 0 7 6;"), 1);
        due("told, the second of both", end(house, "steal 7;both 0 6 7;"), 1);
        due("polished", end(house, "steal 7;polish 7;"), 1);
        due("others are told", end(house, "steal 7;tell 0 6;both 0 5 6;polish 6;"), 4);
        due("told when it is back", end(house, "steal 7;back 7;tell 0 7;both 0 7 6;polish 7;"), 5);
        due("its SHINE", last(house, "tell 0 7;steal 7;", 17), 0);
        due("its GLOSS", last(house, "polish 7;steal 7;", 27), 0);
        due("its SHINE, back", last(house, "tell 0 7;steal 7;back 7;", 17), 0);
        due("its GLOSS, back", last(house, "polish 7;steal 7;back 7;", 27), 0);
        due("another's SHINE", last(house, "tell 0 7;steal 6;", 17), 10);
        due("another's GLOSS", last(house, "polish 7;steal 6;", 27), 5);
        due("what it KNOWS", last(house, "tell 0 7;steal 7;", 37), 1);
        due("what was given", last(house, "tell 0 7;steal 7;", 4), 10);
    }

    private static void ends() {
        KIT.of("A DEED can't be, if there is no such PIECE, SECRET, or it is not as said.");
        for (String deed : new String[] {"tell 0 1;", "tell 1 0;", "both 1 0 1;", "polish 1;", "steal 1;", "back 1;",
            "both 0 0 1;", "both 0 1 0;", "tell 9 7;", "both 9 7 6;", "polish 7;", "steal 7;", "back 7;"}) {
            due("in a HOUSE of one, " + deed, end("piece love 1;secret love 1;", deed), 0);
            due("in a HOUSE of one, behind an hour, " + deed, end("piece love 1;secret love 1;", "hour;" + deed), 1);
        }
        for (String deed : new String[] {"tell 0 0;", "polish 0;", "steal 0;"}) {
            due("in a HOUSE of one, " + deed, end("piece love 1;secret love 1;", deed), 1);
            due("in a HOUSE without any, " + deed, end("", deed), 0);
        }
        due("without SECRETS, polish", end("piece love 1;", "polish 0;steal 0;back 0;tell 0 0;"), 3);
        due("without PIECES", end("secret love 1;", "hour;tell 0 0;"), 1);
        String great = Kit.times("piece love 1;", 8) + Kit.times("secret love 1;", 10);
        due("the last SECRET to the last PIECE", end(great, "tell 9 7;both 9 7 6;both 9 6 7;polish 7;steal 7;back 7;"), 6);
        KIT.of("END: the first DEED that can't be, else how many there are.");
        due("none", end(great, ""), 0);
        due("one", end(great, "hour;"), 1);
        due("40", end(great, Kit.times("hour;", 40)), 40);
        due("the first", end(great, "back 0;" + Kit.times("hour;", 39)), 0);
        due("the last", end(great, Kit.times("hour;", 39) + "back 0;"), 39);
        due("the first of two", end(great, "hour;back 0;hour;back 0;"), 1);
        KIT.of("A STATE is behind the first n DEEDS, n up to END.");
        TarnishTurns x = month(great, "hour;hour;back 0;hour;");
        due("0", x.state(0, 0, 0, 0), 0);
        due("END", x.state(0, 0, 2, 0), 2);
        for (int n : new int[] {3, 4, 5, 40, 41, MOST, -1, -2, LEAST}) {
            due("no STATE " + n, x.state(0, 0, n, 0), -2);
        }
        TarnishTurns y = month("", "");
        due("0, without DEEDS", y.state(0, 0, 0, 0), 0);
        due("1, without DEEDS", y.state(0, 0, 1, 0), -2);
    }

    private static void bright() {
        KIT.of("BRIGHT is the PIECE with most SHINE and GLOSS together, of several the least (none, if none has any).");
        String even = "piece love 1;piece love 1;piece will 1;secret love 5;secret love 6;";
        due("none", last(even, "", 1), NONE);
        due("the least", last(even, "both 0 2 1;", 1), 1);
        due("of several the least", last(even, "both 0 1 0;", 1), 0);
        due("GLOSS alone", last(even, "polish 2;", 1), 2);
        due("SHINE alone", last(even, "tell 0 2;", 1), 2);
        due("5 of each", last(even, "tell 0 2;polish 1;", 1), 1);
        due("6 of SHINE", last(even, "tell 1 2;polish 1;", 1), 2);
        due("together", last(even, "both 0 0 1;polish 1;", 1), 1);
        due("worn off", last(even, "tell 0 2;" + Kit.times("hour;", 5), 1), NONE);
        due("one is left", last(even, "tell 0 2;" + Kit.times("hour;", 4), 1), 2);
        due("half of one is none", last("piece will 1;piece will 1;secret love 1;", "both 0 0 1;", 1), NONE);
        due("the last", last(Kit.times("piece love 1;", 8) + "secret love 1;", "tell 0 7;", 1), 7);
        due("STOLEN", last(even, "polish 2;steal 2;", 1), NONE);
        KIT.of("DUSK: more than one has any.");
        due("none", last(even, "", 2), 0);
        due("one", last(even, "tell 0 0;", 2), 0);
        due("one, by SHINE and GLOSS", last(even, "tell 0 0;polish 0;", 2), 0);
        due("one SHINE, another GLOSS", last(even, "tell 0 0;polish 1;", 2), 1);
        due("two", last(even, "both 0 0 1;", 2), 1);
        due("three", last(even, "both 0 0 1;polish 2;", 2), 1);
        due("half of one is none", last("piece love 1;piece will 1;secret love 1;", "both 0 0 1;", 2), 0);
        due("one by WEAR", last("piece love 9;piece love 1;secret love 5;", "both 0 0 1;hour;", 2), 0);
    }

    private static void looks() {
        KIT.of("Of a STATE, what 0: the hour, 1: BRIGHT (NONE: none), 2: 1 if it is DUSK, else 0, 3: who is STOLEN (bits)");
        String house = Kit.times("piece love 1;", 8) + Kit.times("secret love 30;", 10);
        String deeds = "hour;both 9 6 7;polish 7;steal 0;";
        int[] none = {0, NONE, 0, 0};
        int[] wants = {1, 7, 1, 1};
        for (int what = 0; what < 4; what++) {
            due("nothing yet, " + what, last(house, "", what), none[what]);
            due("what " + what, last(house, deeds, what), wants[what]);
        }
        KIT.of("10 + p, 20 + p, 30 + p: SHINE, GLOSS, what a PIECE KNOWS (bits).");
        int[][] rows = {{0, 0, 0, 0, 0, 0, 30, 30}, {0, 0, 0, 0, 0, 0, 0, 5}, {0, 0, 0, 0, 0, 0, 512, 512}};
        for (int row = 0; row < 3; row++) {
            for (int p = 0; p < 8; p++) {
                due("what " + (10 * row + 10 + p), last(house, deeds, 10 * row + 10 + p), rows[row][p]);
            }
            due("no such PIECE, 8, " + row, last(house, deeds, 10 * row + 18), -2);
            due("no such PIECE, 9, " + row, last(house, deeds, 10 * row + 19), -2);
        }
    }

    private static void given() {
        KIT.of("4: all SHINE that was given by tell and both, together");
        due("none", last(TWO, "hour;polish 0;steal 0;back 0;", 4), 0);
        due("tell", last(TWO, "tell 0 0;", 4), 10);
        due("both", last(TWO, "both 0 0 1;", 4), 7);
        due("together", last(TWO, "tell 0 0;both 0 0 1;hour;tell 1 1;", 4), 10 + 2 + 2 + 1);
        String most = "piece love 0;" + Kit.times("secret love 30;", 10);
        StringBuilder tells = new StringBuilder();
        for (int s = 0; s < 10; s++) {
            tells.append("tell ").append(s).append(" 0;");
        }
        due("600 by ten", last(most, tells.toString(), 4), 600);
        due("30 each from then on", last(most, tells + Kit.times("tell 9 0;", 30), 4), 1500);
    }

    /** A question is answered as on a new object, whatever was asked ahead of it. */
    private static void anew() {
        KIT.of("A MONTH of a HOUSE begins at hour 0, all PIECES there, without SHINE.");
        String house = "piece love 0;piece love 0;secret love 30;";
        TarnishTurns x = month(house, "polish 1;both 0 0 1;tell 0 1;hour;polish 1;steal 0;");
        Kit.tell(x, 1, "");
        Kit.tell(x, 0, house + "secret will 30;");
        int[] whats = {0, 1, 2, 3, 4, 10, 11, 20, 21, 30, 31};
        int[] wants = {0, NONE, 0, 0, 0, 0, 0, 0, 0, 0, 0};
        int[] afters = {NONE, 1, NONE, 0};
        for (int i = 0; i < whats.length; i++) {
            due("till", x.till(0, 0), 6);
            due("another MONTH behind it, " + whats[i], x.state(0, 1, 0, whats[i]), wants[i]);
            due("till in the other HOUSE", x.till(1, 0), 6);
            due("DRAWN behind it, " + whats[i], x.drawn(0, 1, 0, whats[i]), wants[i]);
        }
        for (int what = 0; what < 4; what++) {
            x.after(0, 0, what);
            due("after another MONTH, " + what, x.after(0, 1, what), afters[what]);
        }
        due("the first MONTH once more, STAR", x.after(0, 0, 0), 1);
        due("the first MONTH once more, DARK", x.after(0, 0, 1), 1);
        due("the first MONTH once more, DUSKED", x.after(0, 0, 2), 2);
        due("the first MONTH once more, GREATEST", x.after(0, 0, 3), 30);
    }

    private static void deeds() {
        KIT.of("of DEED k, what 0: 0 tell, 1 both, 2 polish, 3 steal, 4 back, 5 hour, 1, 2, 3: its numbers (NONE without).");
        TarnishTurns x = month(null, "tell 9 7;both 0 0 7;polish 0;steal 7;back 0;hour;");
        int[][] wants = {{0, 9, 7, NONE}, {1, 0, 0, 7}, {2, 0, NONE, NONE}, {3, 7, NONE, NONE}, {4, 0, NONE, NONE},
            {5, NONE, NONE, NONE}};
        for (int k = 0; k < 6; k++) {
            for (int what = 0; what < 4; what++) {
                due("deed " + k + " " + what, x.deed(0, k, what), wants[k][what]);
            }
        }
    }

    private static void drawnAs(String house, int seed, int n) {
        TarnishTurns x = Kit.home(house);
        OracleMonth month = new OracleMonth(oracle(house));
        month.draw(seed, n);
        for (int what = -1; what < 41; what++) {
            if (what < 10 || what % 10 < 9) {
                due("drawn " + seed + " " + n + " " + what + " " + house, x.drawn(0, seed, n, what), month.look(what));
            }
        }
    }

    /** The HOUSE of a text of lines without blanks but one: PIECES and SECRETS alone. */
    private static Oracle oracle(String house) {
        Oracle o = new Oracle();
        String kinds = "love debt death will";
        for (String line : house.split(";")) {
            String[] words = line.split(" ");
            int kind = words.length < 3 ? 0 : kinds.substring(0, kinds.indexOf(words[1])).split(" ", -1).length - 1;
            if (words[0].equals("piece")) {
                o.pieces.add(new int[] {kind, Integer.parseInt(words[2])});
                o.knows.add(new TreeSet<>());
            } else if (words[0].equals("secret")) {
                o.secrets.add(new int[] {kind, Integer.parseInt(words[2])});
            }
        }
        return o;
    }

    private static void draws() {
        KIT.of("x becomes x * 1103515245 + 12345 (of 32 bits), it is x shifted right by 16 without sign, remainder by n: "
                + "n times, 0 to 60: a number below 8: 0, 1: tell, a SECRET, below SECRETS, a PIECE, below PIECES; 2: both, "
                + "a SECRET, a PIECE, the other: the next number (0 behind the last); 3: polish, a PIECE; 4, 5, 6: hour; "
                + "7: a PIECE, steal, if it is there, else back; each, if it may.");
        String[] houses = {"", "piece love 1;", "secret love 7;", "piece love 1;secret love 7;",
            "piece love 1;piece will 0;secret love 7;",
            "piece love 1;piece will 2;piece debt 0;secret love 7;secret death 29;secret will 30;",
            Kit.times("piece love 1;", 8) + Kit.times("secret love 30;", 10)};
        for (String house : houses) {
            for (int seed : new int[] {LEAST, LEAST + 1, -65536, -12345, -1, 0, 1, 65535, 65536, MOST - 1, MOST}) {
                for (int n : new int[] {0, 1, 2, 30, 59, 60}) {
                    drawnAs(house, seed, n);
                }
            }
        }
        KIT.of("DRAWN, n times, what as state(). -2: there is none such, another n, or for another what.");
        for (int n : new int[] {LEAST, -1, 61, MOST}) {
            for (String house : houses) {
                due("drawn " + n + " " + house, Kit.home(house).drawn(0, 1, n, 0), -2);
            }
        }
        KIT.of("(Where there are no SECRETS or no PIECES, 0 to 3 and 7 draw no more, nothing is done.)");
        // By seed 0 come 0, 54236, 42756, 54885, 3498, 49695, 16045: remainders by 8: 0, 4, 4, 5, 2, 7, 5.
        int[] hours = {0, 0, 1, 2, 3, 3, 3, 4};
        for (int n = 0; n <= 7; n++) {
            due("hours without any, " + n, Kit.home("").drawn(0, 0, n, 0), hours[n]);
            due("hours without SECRETS, " + n, Kit.home("piece love 1;").drawn(0, 0, n, 0), hours[n]);
            due("hours without PIECES, " + n, Kit.home("secret love 1;").drawn(0, 0, n, 0), hours[n]);
        }
        due("nothing is STOLEN without SECRETS", Kit.home("piece love 1;").drawn(0, 0, 6, 3), 0);
    }

    /** A SEED by which the first lots are as wanted: found by going through SEEDS, held by what is seen. */
    private static void drawnOthers() {
        KIT.of("2: both, a SECRET, a PIECE, the other: the next number (0 behind the last)");
        String house = "piece love 0;piece love 0;piece love 0;secret love 30;";
        int[] seen = new int[3];
        for (int seed = 0; seed < 200; seed++) {
            TarnishTurns x = Kit.home(house);
            if (x.drawn(0, seed, 1, 2) == 1) {
                int a = x.drawn(0, seed, 1, 10);
                int b = x.drawn(0, seed, 1, 11);
                int c = x.drawn(0, seed, 1, 12);
                due("two of three shine by seed " + seed, a + b + c, 60);
                seen[a == 0 ? 1 : b == 0 ? 2 : 0]++;
            }
        }
        for (int p = 0; p < 3; p++) {
            KIT.due("both, from " + p + " on", seen[p] > 0, true);
        }
        KIT.of("each, if it may.");
        for (int seed = 0; seed < 200; seed++) {
            TarnishTurns x = Kit.home("piece love 0;secret love 30;");
            due("one PIECE is never two, by seed " + seed, x.drawn(0, seed, 1, 10) % 60, 0);
            due("STOLEN ones have no SHINE, by seed " + seed, x.drawn(0, seed, 60, 3) * x.drawn(0, seed, 60, 10), 0);
        }
    }

    private static void states() {
        KIT.of("STAR: the PIECE that is BRIGHT in most of all its STATES, of several the least (never any: none)");
        String two = "piece love 1;piece love 1;secret love 5;";
        due("never any", month(two, "hour;hour;").after(0, 0, 0), NONE);
        due("without DEEDS", month(two, "").after(0, 0, 0), NONE);
        due("without PIECES", month("", "hour;").after(0, 0, 0), NONE);
        due("once", month(two, "polish 1;").after(0, 0, 0), 1);
        due("of several the least", month(two, "polish 1;polish 0;").after(0, 0, 0), 0);
        due("most", month(two, "polish 1;polish 1;polish 0;").after(0, 0, 0), 1);
        due("the last of eight", month(Kit.times("piece love 1;", 8), "polish 7;polish 6;polish 7;").after(0, 0, 0), 7);
        due("none of eight", month(Kit.times("piece love 1;", 8), "hour;").after(0, 0, 0), NONE);
        due("up to END", month(two, "polish 1;polish 0;polish 0;back 0;polish 1;polish 1;").after(0, 0, 0), 0);
        due("the last STATE, too", month(two, "polish 0;polish 1;polish 1;").after(0, 0, 0), 1);
        KIT.of("DARK: in how many STATES nothing is BRIGHT");
        due("without DEEDS", month(two, "").after(0, 0, 1), 1);
        due("all of 41", month("", Kit.times("hour;", 40)).after(0, 0, 1), 41);
        due("the first alone", month(two, "polish 1;polish 0;").after(0, 0, 1), 1);
        due("up to END", month(two, "hour;back 0;hour;hour;").after(0, 0, 1), 2);
        due("the last, too", month(two, "polish 1;hour;").after(0, 0, 1), 2);
        KIT.of("DUSKED: the least n of a STATE that is DUSK (none)");
        due("none", month(two, "tell 0 0;").after(0, 0, 2), NONE);
        due("without DEEDS", month(two, "").after(0, 0, 2), NONE);
        due("1", month(two, "both 0 0 1;both 0 0 1;").after(0, 0, 2), 1);
        due("the least", month(two, "hour;both 0 0 1;tell 0 0;both 0 0 1;").after(0, 0, 2), 2);
        due("40", month(two, Kit.times("hour;", 39) + "both 0 0 1;").after(0, 0, 2), 40);
        due("not behind END", month(two, "back 0;both 0 0 1;").after(0, 0, 2), NONE);
        KIT.of("GREATEST: the most SHINE any PIECE has in any STATE.");
        due("without DEEDS", month(two, "").after(0, 0, 3), 0);
        due("without PIECES", month("", "hour;").after(0, 0, 3), 0);
        due("GLOSS is none", month(two, "polish 0;").after(0, 0, 3), 0);
        due("it was greater", month(two, "tell 0 0;hour;hour;").after(0, 0, 3), 10);
        due("the last PIECE, the last STATE", month(Kit.times("piece love 1;", 8) + "secret love 30;",
                Kit.times("hour;", 39) + "tell 0 7;").after(0, 0, 3), 60);
        KIT.of("What 0: STAR (NONE), 1: DARK, 2: DUSKED (NONE)");
        int[] afters = {NONE, 1, NONE, 0};
        for (int what = 0; what < 4; what++) {
            due("END 0, " + what, month("", "tell 0 0;").after(0, 0, what), afters[what]);
        }
        due("not behind END", month(two, "back 0;tell 0 0;").after(0, 0, 3), 0);
        due("one PIECE's, not all", month(two, "both 0 0 1;").after(0, 0, 3), 5);
    }

    public static void main(String[] args) {
        worths();
        beginning();
        telling();
        polishing();
        stealing();
        ends();
        bright();
        looks();
        given();
        anew();
        deeds();
        draws();
        drawnOthers();
        states();
        KIT.finish();
    }
}
